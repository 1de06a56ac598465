section
-- ===== PART A: goes FIRST, ahead of the names: the tables' words, and 'selects' of the private methods out of them =====
/-- a private method of a class that the tables say can be made, by its rows of tables_1 -/
def lw_okq (q : MethodName × Nat) : Prop := (q.1.cls ≠ "java/lang/invoke/MethodHandle" ∧ q.1.cls ≠ "java/lang/invoke/VarHandle") ∧ Cond.instantiable q.1.cls q.2 ∈ tables_1 ∧ Cond.privateMethod q.1 ∈ tables_1 ∧ Cond.instanceMethod q.1 ∈ tables_1
theorem lw_p0 : lw_okq (⟨"java/lang/Throwable", "fillInStackTrace", "(I)Ljava/lang/Throwable;"⟩, 6) := ⟨⟨by decide +kernel, by decide +kernel⟩, List.mem_of_getElem? (i := 101) (by decide +kernel), List.mem_of_getElem? (i := 99) (by decide +kernel), List.mem_of_getElem? (i := 100) (by decide +kernel)⟩
theorem lw_p1 : lw_okq (⟨"RafterPlaces", "changeRun", "(ILRafterPlaces$Fraction;)Z"⟩, 3) := ⟨⟨by decide +kernel, by decide +kernel⟩, List.mem_of_getElem? (i := 12) (by decide +kernel), List.mem_of_getElem? (i := 164) (by decide +kernel), List.mem_of_getElem? (i := 165) (by decide +kernel)⟩
theorem lw_p2 : lw_okq (⟨"RafterPlaces", "checkOthersAreNotAllGables", "(I)V"⟩, 3) := ⟨⟨by decide +kernel, by decide +kernel⟩, List.mem_of_getElem? (i := 12) (by decide +kernel), List.mem_of_getElem? (i := 180) (by decide +kernel), List.mem_of_getElem? (i := 181) (by decide +kernel)⟩
theorem lw_p3 : lw_okq (⟨"RafterPlaces", "isGable", "(I)Z"⟩, 3) := ⟨⟨by decide +kernel, by decide +kernel⟩, List.mem_of_getElem? (i := 12) (by decide +kernel), List.mem_of_getElem? (i := 184) (by decide +kernel), List.mem_of_getElem? (i := 185) (by decide +kernel)⟩
theorem lw_p4 : lw_okq (⟨"RafterPlaces", "checkInOutline", "(JJ)V"⟩, 3) := ⟨⟨by decide +kernel, by decide +kernel⟩, List.mem_of_getElem? (i := 12) (by decide +kernel), List.mem_of_getElem? (i := 211) (by decide +kernel), List.mem_of_getElem? (i := 212) (by decide +kernel)⟩
theorem lw_p5 : lw_okq (⟨"RafterPlaces", "lowestSide", "(JJ)I"⟩, 3) := ⟨⟨by decide +kernel, by decide +kernel⟩, List.mem_of_getElem? (i := 12) (by decide +kernel), List.mem_of_getElem? (i := 215) (by decide +kernel), List.mem_of_getElem? (i := 216) (by decide +kernel)⟩
theorem lw_p6 : lw_okq (⟨"RafterPlaces", "isLower", "(IIJJ)Z"⟩, 3) := ⟨⟨by decide +kernel, by decide +kernel⟩, List.mem_of_getElem? (i := 12) (by decide +kernel), List.mem_of_getElem? (i := 219) (by decide +kernel), List.mem_of_getElem? (i := 220) (by decide +kernel)⟩
theorem lw_p7 : lw_okq (⟨"RafterPlaces", "planeHeight", "(IJJ)LRafterPlaces$Fraction;"⟩, 3) := ⟨⟨by decide +kernel, by decide +kernel⟩, List.mem_of_getElem? (i := 12) (by decide +kernel), List.mem_of_getElem? (i := 223) (by decide +kernel), List.mem_of_getElem? (i := 224) (by decide +kernel)⟩
theorem lw_p8 : lw_okq (⟨"RafterPlaces", "distanceFrom", "(IJJ)J"⟩, 3) := ⟨⟨by decide +kernel, by decide +kernel⟩, List.mem_of_getElem? (i := 12) (by decide +kernel), List.mem_of_getElem? (i := 227) (by decide +kernel), List.mem_of_getElem? (i := 228) (by decide +kernel)⟩
theorem lw_p9 : lw_okq (⟨"RafterPlaces", "checkNoGable", "(I)V"⟩, 3) := ⟨⟨by decide +kernel, by decide +kernel⟩, List.mem_of_getElem? (i := 12) (by decide +kernel), List.mem_of_getElem? (i := 253) (by decide +kernel), List.mem_of_getElem? (i := 254) (by decide +kernel)⟩
theorem lw_p10 : lw_okq (⟨"RafterPlaces", "sideLength", "(I)J"⟩, 3) := ⟨⟨by decide +kernel, by decide +kernel⟩, List.mem_of_getElem? (i := 12) (by decide +kernel), List.mem_of_getElem? (i := 259) (by decide +kernel), List.mem_of_getElem? (i := 260) (by decide +kernel)⟩
theorem lw_p11 : lw_okq (⟨"RafterPlaces", "checkRafter", "(IJ)V"⟩, 3) := ⟨⟨by decide +kernel, by decide +kernel⟩, List.mem_of_getElem? (i := 12) (by decide +kernel), List.mem_of_getElem? (i := 273) (by decide +kernel), List.mem_of_getElem? (i := 274) (by decide +kernel)⟩
theorem lw_p12 : lw_okq (⟨"RafterPlaces", "rafterEnd", "(IJ)LRafterPlaces$Fraction;"⟩, 3) := ⟨⟨by decide +kernel, by decide +kernel⟩, List.mem_of_getElem? (i := 12) (by decide +kernel), List.mem_of_getElem? (i := 277) (by decide +kernel), List.mem_of_getElem? (i := 278) (by decide +kernel)⟩
theorem lw_p13 : lw_okq (⟨"RafterPlaces", "endingSide", "(IJ)I"⟩, 3) := ⟨⟨by decide +kernel, by decide +kernel⟩, List.mem_of_getElem? (i := 12) (by decide +kernel), List.mem_of_getElem? (i := 281) (by decide +kernel), List.mem_of_getElem? (i := 282) (by decide +kernel)⟩
theorem lw_p14 : lw_okq (⟨"RafterPlaces", "limitBy", "(IIJ)LRafterPlaces$Fraction;"⟩, 3) := ⟨⟨by decide +kernel, by decide +kernel⟩, List.mem_of_getElem? (i := 12) (by decide +kernel), List.mem_of_getElem? (i := 288) (by decide +kernel), List.mem_of_getElem? (i := 289) (by decide +kernel)⟩
theorem lw_p15 : lw_okq (⟨"RafterPlaces", "wayToOpposite", "(I)J"⟩, 3) := ⟨⟨by decide +kernel, by decide +kernel⟩, List.mem_of_getElem? (i := 12) (by decide +kernel), List.mem_of_getElem? (i := 302) (by decide +kernel), List.mem_of_getElem? (i := 303) (by decide +kernel)⟩
def lw_privs_1 : List (MethodName × Nat) := [(⟨"java/lang/Throwable", "fillInStackTrace", "(I)Ljava/lang/Throwable;"⟩, 6), (⟨"RafterPlaces", "changeRun", "(ILRafterPlaces$Fraction;)Z"⟩, 3), (⟨"RafterPlaces", "checkOthersAreNotAllGables", "(I)V"⟩, 3), (⟨"RafterPlaces", "isGable", "(I)Z"⟩, 3), (⟨"RafterPlaces", "checkInOutline", "(JJ)V"⟩, 3), (⟨"RafterPlaces", "lowestSide", "(JJ)I"⟩, 3), (⟨"RafterPlaces", "isLower", "(IIJJ)Z"⟩, 3), (⟨"RafterPlaces", "planeHeight", "(IJJ)LRafterPlaces$Fraction;"⟩, 3), (⟨"RafterPlaces", "distanceFrom", "(IJJ)J"⟩, 3), (⟨"RafterPlaces", "checkNoGable", "(I)V"⟩, 3), (⟨"RafterPlaces", "sideLength", "(I)J"⟩, 3), (⟨"RafterPlaces", "checkRafter", "(IJ)V"⟩, 3), (⟨"RafterPlaces", "rafterEnd", "(IJ)LRafterPlaces$Fraction;"⟩, 3), (⟨"RafterPlaces", "endingSide", "(IJ)I"⟩, 3), (⟨"RafterPlaces", "limitBy", "(IIJ)LRafterPlaces$Fraction;"⟩, 3), (⟨"RafterPlaces", "wayToOpposite", "(I)J"⟩, 3)]
theorem lw_r1 : ∀ q ∈ lw_privs_1, lw_okq q := List.forall_mem_cons.mpr ⟨lw_p0, List.forall_mem_cons.mpr ⟨lw_p1, List.forall_mem_cons.mpr ⟨lw_p2, List.forall_mem_cons.mpr ⟨lw_p3, List.forall_mem_cons.mpr ⟨lw_p4, List.forall_mem_cons.mpr ⟨lw_p5, List.forall_mem_cons.mpr ⟨lw_p6, List.forall_mem_cons.mpr ⟨lw_p7, List.forall_mem_cons.mpr ⟨lw_p8, List.forall_mem_cons.mpr ⟨lw_p9, List.forall_mem_cons.mpr ⟨lw_p10, List.forall_mem_cons.mpr ⟨lw_p11, List.forall_mem_cons.mpr ⟨lw_p12, List.forall_mem_cons.mpr ⟨lw_p13, List.forall_mem_cons.mpr ⟨lw_p14, List.forall_mem_cons.mpr ⟨lw_p15, fun _ h => absurd h List.not_mem_nil⟩⟩⟩⟩⟩⟩⟩⟩⟩⟩⟩⟩⟩⟩⟩⟩
theorem lw_p16 : lw_okq (⟨"RafterPlaces", "squareAlongSlope", "(ILRafterPlaces$Fraction;)LRafterPlaces$Fraction;"⟩, 3) := ⟨⟨by decide +kernel, by decide +kernel⟩, List.mem_of_getElem? (i := 12) (by decide +kernel), List.mem_of_getElem? (i := 324) (by decide +kernel), List.mem_of_getElem? (i := 325) (by decide +kernel)⟩
theorem lw_p17 : lw_okq (⟨"RafterPlaces", "cutTangent", "(IJI)LRafterPlaces$Fraction;"⟩, 3) := ⟨⟨by decide +kernel, by decide +kernel⟩, List.mem_of_getElem? (i := 12) (by decide +kernel), List.mem_of_getElem? (i := 350) (by decide +kernel), List.mem_of_getElem? (i := 351) (by decide +kernel)⟩
theorem lw_p18 : lw_okq (⟨"RafterPlaces", "inAtPeak", "(I)LRafterPlaces$Fraction;"⟩, 3) := ⟨⟨by decide +kernel, by decide +kernel⟩, List.mem_of_getElem? (i := 12) (by decide +kernel), List.mem_of_getElem? (i := 371) (by decide +kernel), List.mem_of_getElem? (i := 372) (by decide +kernel)⟩
theorem lw_p19 : lw_okq (⟨"RafterPlaces", "peakHeight", "()LRafterPlaces$Fraction;"⟩, 3) := ⟨⟨by decide +kernel, by decide +kernel⟩, List.mem_of_getElem? (i := 12) (by decide +kernel), List.mem_of_getElem? (i := 375) (by decide +kernel), List.mem_of_getElem? (i := 376) (by decide +kernel)⟩
theorem lw_p20 : lw_okq (⟨"RafterPlaces", "ridgeBound", "(I)LRafterPlaces$Fraction;"⟩, 3) := ⟨⟨by decide +kernel, by decide +kernel⟩, List.mem_of_getElem? (i := 12) (by decide +kernel), List.mem_of_getElem? (i := 393) (by decide +kernel), List.mem_of_getElem? (i := 394) (by decide +kernel)⟩
theorem lw_p21 : lw_okq (⟨"RafterPlaces", "twiceArea", "(I)LRafterPlaces$Fraction;"⟩, 3) := ⟨⟨by decide +kernel, by decide +kernel⟩, List.mem_of_getElem? (i := 12) (by decide +kernel), List.mem_of_getElem? (i := 408) (by decide +kernel), List.mem_of_getElem? (i := 409) (by decide +kernel)⟩
theorem lw_p22 : lw_okq (⟨"RafterPlacesModel", "put", "(JJ)V"⟩, 8) := ⟨⟨by decide +kernel, by decide +kernel⟩, List.mem_of_getElem? (i := 420) (by decide +kernel), List.mem_of_getElem? (i := 472) (by decide +kernel), List.mem_of_getElem? (i := 473) (by decide +kernel)⟩
theorem lw_p23 : lw_okq (⟨"RafterPlacesModel", "isInside", "(JJ)Z"⟩, 8) := ⟨⟨by decide +kernel, by decide +kernel⟩, List.mem_of_getElem? (i := 420) (by decide +kernel), List.mem_of_getElem? (i := 484) (by decide +kernel), List.mem_of_getElem? (i := 485) (by decide +kernel)⟩
theorem lw_p24 : lw_okq (⟨"RafterPlacesModel", "lowest", "(JJ)I"⟩, 8) := ⟨⟨by decide +kernel, by decide +kernel⟩, List.mem_of_getElem? (i := 420) (by decide +kernel), List.mem_of_getElem? (i := 488) (by decide +kernel), List.mem_of_getElem? (i := 489) (by decide +kernel)⟩
theorem lw_p25 : lw_okq (⟨"RafterPlacesModel", "far", "(IJJ)J"⟩, 8) := ⟨⟨by decide +kernel, by decide +kernel⟩, List.mem_of_getElem? (i := 420) (by decide +kernel), List.mem_of_getElem? (i := 492) (by decide +kernel), List.mem_of_getElem? (i := 493) (by decide +kernel)⟩
theorem lw_p26 : lw_okq (⟨"RafterPlacesModel", "told", "(I)J"⟩, 8) := ⟨⟨by decide +kernel, by decide +kernel⟩, List.mem_of_getElem? (i := 420) (by decide +kernel), List.mem_of_getElem? (i := 496) (by decide +kernel), List.mem_of_getElem? (i := 497) (by decide +kernel)⟩
theorem lw_p27 : lw_okq (⟨"RafterPlacesModel", "sideCode", "(I)I"⟩, 8) := ⟨⟨by decide +kernel, by decide +kernel⟩, List.mem_of_getElem? (i := 420) (by decide +kernel), List.mem_of_getElem? (i := 508) (by decide +kernel), List.mem_of_getElem? (i := 509) (by decide +kernel)⟩
theorem lw_p28 : lw_okq (⟨"RafterPlacesModel", "width", "(I)J"⟩, 8) := ⟨⟨by decide +kernel, by decide +kernel⟩, List.mem_of_getElem? (i := 420) (by decide +kernel), List.mem_of_getElem? (i := 513) (by decide +kernel), List.mem_of_getElem? (i := 514) (by decide +kernel)⟩
theorem lw_p29 : lw_okq (⟨"RafterPlacesModel", "rafterCode", "(IJ)I"⟩, 8) := ⟨⟨by decide +kernel, by decide +kernel⟩, List.mem_of_getElem? (i := 420) (by decide +kernel), List.mem_of_getElem? (i := 521) (by decide +kernel), List.mem_of_getElem? (i := 522) (by decide +kernel)⟩
theorem lw_p30 : lw_okq (⟨"RafterPlacesModel", "ending", "(IJ)I"⟩, 8) := ⟨⟨by decide +kernel, by decide +kernel⟩, List.mem_of_getElem? (i := 420) (by decide +kernel), List.mem_of_getElem? (i := 525) (by decide +kernel), List.mem_of_getElem? (i := 526) (by decide +kernel)⟩
theorem lw_p31 : lw_okq (⟨"RafterPlacesModel", "ends", "(IIJ)Z"⟩, 8) := ⟨⟨by decide +kernel, by decide +kernel⟩, List.mem_of_getElem? (i := 420) (by decide +kernel), List.mem_of_getElem? (i := 529) (by decide +kernel), List.mem_of_getElem? (i := 530) (by decide +kernel)⟩
def lw_privs_2 : List (MethodName × Nat) := [(⟨"RafterPlaces", "squareAlongSlope", "(ILRafterPlaces$Fraction;)LRafterPlaces$Fraction;"⟩, 3), (⟨"RafterPlaces", "cutTangent", "(IJI)LRafterPlaces$Fraction;"⟩, 3), (⟨"RafterPlaces", "inAtPeak", "(I)LRafterPlaces$Fraction;"⟩, 3), (⟨"RafterPlaces", "peakHeight", "()LRafterPlaces$Fraction;"⟩, 3), (⟨"RafterPlaces", "ridgeBound", "(I)LRafterPlaces$Fraction;"⟩, 3), (⟨"RafterPlaces", "twiceArea", "(I)LRafterPlaces$Fraction;"⟩, 3), (⟨"RafterPlacesModel", "put", "(JJ)V"⟩, 8), (⟨"RafterPlacesModel", "isInside", "(JJ)Z"⟩, 8), (⟨"RafterPlacesModel", "lowest", "(JJ)I"⟩, 8), (⟨"RafterPlacesModel", "far", "(IJJ)J"⟩, 8), (⟨"RafterPlacesModel", "told", "(I)J"⟩, 8), (⟨"RafterPlacesModel", "sideCode", "(I)I"⟩, 8), (⟨"RafterPlacesModel", "width", "(I)J"⟩, 8), (⟨"RafterPlacesModel", "rafterCode", "(IJ)I"⟩, 8), (⟨"RafterPlacesModel", "ending", "(IJ)I"⟩, 8), (⟨"RafterPlacesModel", "ends", "(IIJ)Z"⟩, 8)]
theorem lw_r2 : ∀ q ∈ lw_privs_2, lw_okq q := List.forall_mem_cons.mpr ⟨lw_p16, List.forall_mem_cons.mpr ⟨lw_p17, List.forall_mem_cons.mpr ⟨lw_p18, List.forall_mem_cons.mpr ⟨lw_p19, List.forall_mem_cons.mpr ⟨lw_p20, List.forall_mem_cons.mpr ⟨lw_p21, List.forall_mem_cons.mpr ⟨lw_p22, List.forall_mem_cons.mpr ⟨lw_p23, List.forall_mem_cons.mpr ⟨lw_p24, List.forall_mem_cons.mpr ⟨lw_p25, List.forall_mem_cons.mpr ⟨lw_p26, List.forall_mem_cons.mpr ⟨lw_p27, List.forall_mem_cons.mpr ⟨lw_p28, List.forall_mem_cons.mpr ⟨lw_p29, List.forall_mem_cons.mpr ⟨lw_p30, List.forall_mem_cons.mpr ⟨lw_p31, fun _ h => absurd h List.not_mem_nil⟩⟩⟩⟩⟩⟩⟩⟩⟩⟩⟩⟩⟩⟩⟩⟩
theorem lw_p32 : lw_okq (⟨"RafterPlacesModel", "depth", "(I)J"⟩, 8) := ⟨⟨by decide +kernel, by decide +kernel⟩, List.mem_of_getElem? (i := 420) (by decide +kernel), List.mem_of_getElem? (i := 533) (by decide +kernel), List.mem_of_getElem? (i := 534) (by decide +kernel)⟩
theorem lw_p33 : lw_okq (⟨"RafterPlacesModel", "makePeak", "()V"⟩, 8) := ⟨⟨by decide +kernel, by decide +kernel⟩, List.mem_of_getElem? (i := 420) (by decide +kernel), List.mem_of_getElem? (i := 558) (by decide +kernel), List.mem_of_getElem? (i := 559) (by decide +kernel)⟩
theorem lw_p34 : lw_okq (⟨"RafterPlacesModel", "top", "(I)Z"⟩, 8) := ⟨⟨by decide +kernel, by decide +kernel⟩, List.mem_of_getElem? (i := 420) (by decide +kernel), List.mem_of_getElem? (i := 562) (by decide +kernel), List.mem_of_getElem? (i := 563) (by decide +kernel)⟩
theorem lw_p35 : lw_okq (⟨"RafterPlacesModel", "lesser", "(JJ)V"⟩, 8) := ⟨⟨by decide +kernel, by decide +kernel⟩, List.mem_of_getElem? (i := 420) (by decide +kernel), List.mem_of_getElem? (i := 566) (by decide +kernel), List.mem_of_getElem? (i := 567) (by decide +kernel)⟩
theorem lw_p36 : lw_okq (⟨"RafterPlacesModel", "makeFar", "(I)V"⟩, 8) := ⟨⟨by decide +kernel, by decide +kernel⟩, List.mem_of_getElem? (i := 420) (by decide +kernel), List.mem_of_getElem? (i := 574) (by decide +kernel), List.mem_of_getElem? (i := 575) (by decide +kernel)⟩
def lw_privs_3 : List (MethodName × Nat) := [(⟨"RafterPlacesModel", "depth", "(I)J"⟩, 8), (⟨"RafterPlacesModel", "makePeak", "()V"⟩, 8), (⟨"RafterPlacesModel", "top", "(I)Z"⟩, 8), (⟨"RafterPlacesModel", "lesser", "(JJ)V"⟩, 8), (⟨"RafterPlacesModel", "makeFar", "(I)V"⟩, 8)]
theorem lw_r3 : ∀ q ∈ lw_privs_3, lw_okq q := List.forall_mem_cons.mpr ⟨lw_p32, List.forall_mem_cons.mpr ⟨lw_p33, List.forall_mem_cons.mpr ⟨lw_p34, List.forall_mem_cons.mpr ⟨lw_p35, List.forall_mem_cons.mpr ⟨lw_p36, fun _ h => absurd h List.not_mem_nil⟩⟩⟩⟩⟩
def lw_privs : List (MethodName × Nat) := lw_privs_1 ++ (lw_privs_2 ++ (lw_privs_3))
def lw_tbl : List Cond := k2_sels lw_privs ++ tables_1
theorem lw_privs_ok : ∀ q ∈ lw_privs, lw_okq q := by
  show ∀ q ∈ lw_privs_1 ++ (lw_privs_2 ++ (lw_privs_3)), lw_okq q
  exact List.forall_mem_append.mpr ⟨lw_r1, List.forall_mem_append.mpr ⟨lw_r2, lw_r3⟩⟩
-- ===== end of PART A; then your names; then what follows =====
end
section
/-! ===== BEGIN words of one list among another's, by their places ===== -/
theorem goodIn_r {big : List Cond} (ws : List Cond) (ps : List Nat) (hp : ws = ps.filterMap (fun i => big[i]?)) (h : ws.all goodWord = true) : GoodIn big ws := by
  intro w hw
  have h1 := List.all_eq_true.mp h w hw
  rw [hp] at hw
  obtain ⟨i, -, hi⟩ := List.mem_filterMap.mp hw
  have hm : w ∈ big := by first | exact List.mem_of_getElem? hi | exact List.getElem?_mem hi
  exact ⟨hm, good_of_word h1⟩
theorem goodIn_app {big a b : List Cond} (ha : GoodIn big a) (hb : GoodIn big b) : GoodIn big (a ++ b) := fun w h => (List.mem_append.mp h).elim (ha w) (hb w)
theorem goodIn_ca {big a b : List Cond} {c : Cond} (ha : GoodIn big (c :: a)) (hb : GoodIn big b) : GoodIn big (c :: (a ++ b)) := fun w h => (List.mem_cons.mp h).elim (fun e => ha w (List.mem_cons.mpr (Or.inl e))) (fun h => (List.mem_append.mp h).elim (fun h => ha w (List.mem_cons.mpr (Or.inr h))) (hb w))
theorem goodIn_sub {big ws : List Cond} (hm : ∀ w ∈ ws, w ∈ big) (h : ws.all goodWord = true) : GoodIn big ws := fun w hw => ⟨hm w hw, good_of_word (List.all_eq_true.mp h w hw)⟩
/-! ===== END ===== -/

/-! ===== BEGIN exceptions that leave a method, and their catching by the caller (launches without stack traces) ===== -/
section VXA
/-! The laws vx_back, vx_callV, vx_callS, vx_callSW, vx_throw0, vx_throwS follow proofs of the library, with one case more: JvmDerived/Free/Laws.lean (Back.of_free), Shelf42/LK1.lean (callV, callS), Shelf/KitTraced.lean (throwNew0V, throwNewS). -/
/-- where a method has thrown q: the class by its name, the cell, what was written, the world -/
def vx_T (XC : String → State → State → Prop) (st : State) (q : Addr) (t : State) (mc ms : Nat) (free : Addr → Prop) : Prop :=
  ∃ (E : String) (ce : Cell) (L : List Loc), XC E st t ∧ t.heap[q]? = some ce ∧ ce.vm = .none ∧ st.vm.findClass E = some ce.cls ∧ st.WarmedH t.vm ∧ st.sameButNew ({ t with vm := st.vm } : State) L mc ms ∧ ∀ z ∈ L, free z.base
def vx_Q (Qc : Array Value → State → Outcome → State → Prop) (XC : String → State → State → Prop) (mc ms : Nat) (free : Addr → Prop) : Array Value → State → Outcome → State → Prop := fun a st o t =>
  (Qc a st o t ∧ ∃ L, FrameEnd st o t L mc ms ∧ ∀ q ∈ L, free q.base) ∨ ∃ q, o = .threw q ∧ vx_T XC st q t mc ms free
/-- a callee that returns or throws -/
def vx_Met (l : Launch) (y : MethodName) (ws : List Cond) (rm : Room) (Pc : Array Value → State → Prop) (Qc : Array Value → State → Outcome → State → Prop) (XC : String → State → State → Prop) (mc ms : Nat) (free : Addr → Prop) : Prop :=
  MetFree l y (headSpec ws rm) Pc (fun _ _ _ _ _ => True) (vx_Q Qc XC mc ms free)
def vx_Post (XC : String → State → State → Prop) (mc ms : Nat) (free : Addr → Prop) : Pt → Array Value → Addr → Pt → Prop := fun A a q B =>
  ∃ (g : JFrame) (mk : MethodId) (t : State) (L : List Loc) (E : String) (ce : Cell), B.U.heap = t.heap ∧ B.U.vm = t.vm ∧ XC E (A.U.calling g mk a) t ∧ t.heap[q]? = some ce ∧ ce.vm = .none ∧ A.U.vm.findClass E = some ce.cls ∧ B.locs = A.locs ++ L ∧ (∀ z ∈ L, free z.base) ∧ B.cells = A.cells + mc ∧ B.slots = A.slots + ms
def vx_Back (l : Launch) (R : Room) (p : Program) (e : Env) (below : List Frame) (s : State) (sargs : Array Value) (y : MethodName) (len W9 : Nat)
    (Pre : Pt → Array Value → Prop) (Post : Pt → Array Value → Option Value → Pt → Prop) (PostX : Pt → Array Value → Addr → Pt → Prop) : Prop :=
  ∀ (m : MethodId) (meth : Method) (c : Code) (A : Pt) (g : JFrame) (ig : Instr) (mk : MethodId) (a : Array Value),
    Stand p l e R s m sargs below meth c A.U A.locs A.cells A.slots → g.method = m → g.locals.size = c.maxLocals → decode c.code g.pc = .ok (ig, len) →
    2 * g.monitorRoom + (g.stack.map fun v => v.category).sum ≤ W9 → A.U.methodNamed? y = some mk → Pre A a →
    (∃ (v : Option Value) (B : Pt), Stand p l e R s m sargs below meth c B.U B.locs B.cells B.slots ∧ Post A a v B ∧
      Steps p.tables e below (doInvoke e (A.U.setTop g) [] mk a).1 (B.U.setTop { g with pc := g.pc + len, stack := v.toList ++ g.stack })) ∨
    (∃ (q : Addr) (B : Pt), Stand p l e R s m sargs below meth c B.U B.locs B.cells B.slots ∧ PostX A a q B ∧
      Steps p.tables e below (doInvoke e (A.U.setTop g) [] mk a).1 ((B.U.setTop g).pushFrame (.throwing q)))
section Payer
variable {l : Launch} {R : Room} {p : Program} {e : Env} {below : List Frame} {s : State} {sargs : Array Value} {y : MethodName} {len W9 : Nat}
theorem vx_back {ws : List Cond} {rm : Room} {Pc : Array Value → State → Prop} {Qc : Array Value → State → Outcome → State → Prop} {XC : String → State → State → Prop} {mc ms : Nat} {free : Addr → Prop} {bytes : ByteArray} {maxL : Nat} {ret : Option FieldType}
    (hM : vx_Met l y ws rm Pc Qc XC mc ms free) (hblind : FrameBlind Pc) (hrc : rm.cells = mc) (hrs : rm.slots = ms)
    (hframes : rm.frames + 1 ≤ R.frames) (hlocals : W9 + (maxL + 11) + rm.locals ≤ R.locals)
    (hws : ∀ w ∈ ws, ∀ a' U, s.WarmedH U.vm → w.before a' U = true) (hcode : Cond.code y bytes maxL ret ∈ ws) (hinit : ∀ a' U, s.WarmedH U.vm → (Cond.initialized y.cls).before a' U = true) :
    vx_Back l R p e below s sargs y len W9 (PreOf R mc ms Pc) (PostOf Qc mc ms free) (vx_Post XC mc ms free) := by
  intro m meth c A g ig mk a X hg hsize hdg hW hn hp
  have h1 : (headSpec ws rm).pre.before a A.U = true := atoms_intro fun w hw => hws w hw _ _ X.warmed
  have h2 : (Cond.code y bytes maxL ret).before a A.U = true := hws _ hcode _ _ X.warmed
  have h3 : (Cond.initialized y.cls).before a A.U = true := hinit _ _ X.warmed
  have h4 : A.cells + (headSpec ws rm).room.cells ≤ R.cells := by rw [show (headSpec ws rm).room.cells = mc from hrc]; exact hp.1
  have h5 : A.slots + (headSpec ws rm).room.slots ≤ R.slots := by rw [show (headSpec ws rm).room.slots = ms from hrs]; exact hp.2.1
  have hPc : Pc a (A.U.calling g mk a) := hblind _ _ _ _ hp.2.2
  obtain ⟨U, Ls, c0, s0⟩ := A
  dsimp only [Pt.U, Pt.locs, Pt.cells, Pt.slots] at h1 h2 h3 h4 h5 X hn hPc ⊢
  obtain ⟨methY, cY, hmY, hcY, -, hlY, -, -, -, -⟩ := Cond.code_spec hn h2
  obtain ⟨kY, hkY, -⟩ := className_of_methodNamed hn
  have hinitY : kY.init = .initialized := Cond.initialized_spec (findClass_of_methodNamed hn) hkY h3
  have h : At U g.method c below := by rw [hg]; exact X.here
  have hlocals9 : W9 + (maxL + 11) + (headSpec ws rm).room.locals ≤ R.locals := hlocals
  have happ : (headSpec ws rm).appliesLoose y e.platform (U.calling g mk a) = true :=
    Spec.appliesLoose_calling (g := g) h hdg hn hkY hinitY
      (X.room_calling (g := g) (R' := (headSpec ws rm).room) hsize hmY hcY hframes (by rw [hlY]; omega) h4 h5) h1
  obtain ⟨mid, hmid⟩ := h.above
  have hfr : (U.setTop g).frames = (.java g :: mid) ++ below := by rw [State.frames_setTop' g h.top, hmid]; rfl
  obtain ⟨o, s₂, hsteps, -, hend, hq⟩ := Steps.callFree hM p X.admits X.cas X.clock (acts := []) hfr happ hPc trivial
  have hq' : vx_Q Qc XC mc ms free a (U.calling g mk a) o s₂ := hq
  rw [State.frames_setTop' g h.top] at hend
  obtain ⟨g₀, hg0⟩ := Option.isSome_iff_exists.mp h.top
  obtain ⟨r, hr⟩ := State.topJava?_eq_some.mp hg0
  have hr' : (({ U with heap := s₂.heap, slotsUsed := s₂.slotsUsed } : State).setVm s₂.vm).frames = .java g₀ :: r := hr
  rcases hq' with ⟨hqc, L, hfe, hL⟩ | ⟨q, rfl, E, ce, L, hx, hce, hcv, hcl, hW₂, hsm, hL⟩
  · obtain ⟨⟨v, rfl⟩, hW₂, e2, q2, q3, q4, q5, q6⟩ := id hfe
    have e3 : s₂ = ({ (U.calling g mk a).setFrames s₂.frames with heap := s₂.heap, slotsUsed := s₂.slotsUsed } : State).setVm s₂.vm := by
      have : s₂ = ({ s₂ with vm := (U.calling g mk a).vm } : State).setVm s₂.vm := rfl
      rw [e2] at this
      exact this
    obtain ⟨c₂, i₂, len₂, hc₂, hd₂, hf₂⟩ := hend
    have hW' : U.WarmedH s₂.vm := hW₂
    have hcc : c₂ = c := by
      have h1 : s₂.code? g.method = U.code? g.method := by
        rw [State.code?_eq, State.code?_eq, hW'.alike.method?]
      exact Option.some.inj (hc₂.symm.trans (h1.trans h.code))
    subst hcc
    have hlen : len₂ = len := by rw [hdg] at hd₂; cases hd₂; rfl
    subst hlen
    have hs₂ : s₂ = (({ U with heap := s₂.heap, slotsUsed := s₂.slotsUsed } : State).setVm s₂.vm).setTop { g with pc := g.pc + len₂, stack := v.toList ++ g.stack } := by
      refine e3.trans ?_
      rw [hf₂, State.calling_eq h.top, State.setFrames_setFrames, State.setTop_of_frames _ hr', hr]
      rfl
    have hsame : U.sameButNew ({ U with heap := s₂.heap, slotsUsed := s₂.slotsUsed } : State) L mc ms := by
      refine ⟨?_, q2, q3, q4, q5, q6⟩
      obtain ⟨t, ht, -⟩ := State.frames_cons hr
      show ({ U with heap := s₂.heap, slotsUsed := s₂.slotsUsed } : State) = { U.setFrames U.frames with heap := s₂.heap, slotsUsed := s₂.slotsUsed }
      rw [State.setFrames_self ht]
    subst hg
    refine Or.inl ⟨v, ⟨(({ U with heap := s₂.heap, slotsUsed := s₂.slotsUsed } : State).setVm s₂.vm), Ls ++ L, c0 + mc, s0 + ms⟩,
      ⟨X.admits, X.cas, X.clock, X.frames, X.room, X.hears, X.method, X.code, (X.here.setHeapUsed s₂.heap s₂.slotsUsed).setVm hW'.alike, X.tail, State.WarmedH.trans X.warmed hW', X.limits, X.bytes, X.same.trans (hsame.setVm s.vm)⟩,
      ⟨g, mk, s₂, L, rfl, rfl, hqc, rfl, hL, rfl, rfl⟩, ?_⟩
    show Steps p.tables e below _ ((({ U with heap := s₂.heap, slotsUsed := s₂.slotsUsed } : State).setVm s₂.vm).setTop { g with pc := g.pc + len₂, stack := v.toList ++ g.stack })
    rw [← hs₂]
    exact hsteps
  · obtain ⟨e2, q2, q3, q4, q5, q6⟩ := id hsm
    have e3 : s₂ = ({ (U.calling g mk a).setFrames s₂.frames with heap := s₂.heap, slotsUsed := s₂.slotsUsed } : State).setVm s₂.vm := by
      have : s₂ = ({ s₂ with vm := (U.calling g mk a).vm } : State).setVm s₂.vm := rfl
      rw [e2] at this
      exact this
    have hf₂ : s₂.frames = .throwing q :: .java g :: U.frames.tail := hend
    have hW' : U.WarmedH s₂.vm := hW₂
    have hs₂ : s₂ = ((({ U with heap := s₂.heap, slotsUsed := s₂.slotsUsed } : State).setVm s₂.vm).setTop g).pushFrame (.throwing q) := by
      refine e3.trans ?_
      rw [hf₂, State.calling_eq h.top, State.setFrames_setFrames, State.pushFrame, State.frames_setTop _ hr', State.setTop_of_frames _ hr', State.setFrames_setFrames, hr]
      rfl
    have hsame : U.sameButNew ({ U with heap := s₂.heap, slotsUsed := s₂.slotsUsed } : State) L mc ms := by
      refine ⟨?_, q2, q3, q4, q5, q6⟩
      obtain ⟨t, ht, -⟩ := State.frames_cons hr
      show ({ U with heap := s₂.heap, slotsUsed := s₂.slotsUsed } : State) = { U.setFrames U.frames with heap := s₂.heap, slotsUsed := s₂.slotsUsed }
      rw [State.setFrames_self ht]
    subst hg
    refine Or.inr ⟨q, ⟨(({ U with heap := s₂.heap, slotsUsed := s₂.slotsUsed } : State).setVm s₂.vm), Ls ++ L, c0 + mc, s0 + ms⟩,
      ⟨X.admits, X.cas, X.clock, X.frames, X.room, X.hears, X.method, X.code, (X.here.setHeapUsed s₂.heap s₂.slotsUsed).setVm hW'.alike, X.tail, State.WarmedH.trans X.warmed hW', X.limits, X.bytes, X.same.trans (hsame.setVm s.vm)⟩,
      ⟨g, mk, s₂, L, E, ce, rfl, rfl, hx, hce, hcv, hcl, rfl, hL, rfl, rfl⟩, ?_⟩
    show Steps p.tables e below _ (((({ U with heap := s₂.heap, slotsUsed := s₂.slotsUsed } : State).setVm s₂.vm).setTop g).pushFrame (.throwing q))
    rw [← hs₂]
    exact hsteps
end Payer
section Calls
variable {p : Program} {l : Launch} {e : Env} {R : Room} {s : State} {m : MethodId} {args : Array Value} {below : List Frame} {meth : Method} {c : Code} {T : State} {locs : List Loc} {cells slots : Nat}
theorem vx_callV (X : Stand p l e R s m args below meth c T locs cells slots) (hexec : p.tables.exec = Jvm.exec) {own C : String} {index : Nat} {y : MethodName} {bytes : ByteArray} {maxL : Nat} {ret : Option FieldType}
    (hown : s.vm.findClass own = some m.cls) (hlink : (Cond.methodLink own index y).before args s = true) (hinst : (Cond.instanceMethod y).before args s = true) (hsel : (Cond.selects C y y).before args s = true)
    (hcode : (Cond.code y bytes maxL ret).before args s = true) (hy : y.cls ≠ "java/lang/invoke/MethodHandle" ∧ y.cls ≠ "java/lang/invoke/VarHandle")
    {W9 : Nat} {Pre : Pt → Array Value → Prop} {Post : Pt → Array Value → Option Value → Pt → Prop} {PostX : Pt → Array Value → Addr → Pt → Prop} (hK : vx_Back l R p e below s args y 3 W9 Pre Post PostX)
    {b : Addr} {cellB : Cell} (hcell : T.heap[b]? = some cellB) (hobj : cellB.vm.isStatics = false) (hcls : s.vm.findClass C = some cellB.cls)
    {g : JFrame} (hg : g.method = m) (hsize : g.locals.size = c.maxLocals) {argsL rest : List Value} (hlen : ∀ sig, parseMethodDescriptor y.desc = some sig → argsL.length = sig.parameters.length)
    (hstack : g.stack = argsL.reverse ++ .ref b :: rest) (hW : 2 * g.monitorRoom + (rest.map fun v => v.category).sum ≤ W9) (hdg : decode c.code g.pc = .ok (.invokevirtual index, 3))
    (hpre : ∀ vm₁, s.WarmedH vm₁ → Pre ⟨T.setVm vm₁, locs, cells, slots⟩ (Value.ref b :: argsL).toArray) :
    (∃ (v : Option Value) (vm₁ : Vm) (B : Pt), s.WarmedH vm₁ ∧ Stand p l e R s m args below meth c B.U B.locs B.cells B.slots ∧ Post ⟨T.setVm vm₁, locs, cells, slots⟩ (Value.ref b :: argsL).toArray v B ∧
      ∀ target, Steps p.tables e below (B.U.setTop { g with pc := g.pc + 3, stack := v.toList ++ rest }) target → Steps p.tables e below (T.setTop g) target) ∨
    (∃ (q : Addr) (vm₁ : Vm) (B : Pt), s.WarmedH vm₁ ∧ Stand p l e R s m args below meth c B.U B.locs B.cells B.slots ∧ PostX ⟨T.setVm vm₁, locs, cells, slots⟩ (Value.ref b :: argsL).toArray q B ∧
      Steps p.tables e below (T.setTop g) ((B.U.setTop { g with stack := rest }).pushFrame (.throwing q))) := by
  obtain ⟨mk, methM, hnamed, hmethM, hstM, habM⟩ := Cond.instanceMethod_spec hinst
  obtain ⟨methM', cM, hmethM', -, -, -, -, -, -, hsigM⟩ := Cond.code_spec hnamed hcode
  cases hmethM.symm.trans hmethM'
  obtain ⟨c2, r2, m2, q1, q2, q3, q4, kP, hkP, hkPi⟩ := Cond.selects_spec hsel
  cases hcls.symm.trans q1
  cases (State.methodFound?_of_named hnamed hy).symm.trans q2
  cases hnamed.symm.trans q3
  have hselP : selectMethod e.platform s.vm cellB.cls mk = .method mk := by rw [Launch.admits_selectMethod X.admits]; exact q4
  obtain ⟨vm₁, X₁, hstep₁⟩ := X.invokevirtual hexec hown hlink hnamed hmethM hstM hkP hkPi hy (a := b) (cell := cellB) hcell
    (fun z h => by rw [h] at hobj; cases hobj) hselP hmethM habM hkP hkPi (g := g) hg (argsL := argsL) (rest := rest) (hlen _ hsigM) hstack hdg
  rcases hK m meth c ⟨T.setVm vm₁, locs, cells, slots⟩ { g with stack := rest } (.invokevirtual index) mk (Value.ref b :: argsL).toArray X₁ hg hsize hdg hW (X₁.named hnamed) (hpre vm₁ X₁.warmed) with ⟨v, B, X', hpost, hsteps⟩ | ⟨q, B, X', hpost, hsteps⟩
  · exact Or.inl ⟨v, vm₁, B, X₁.warmed, X', hpost, fun target h => hstep₁ _ fun acts => by rw [doInvoke_state]; exact hsteps.trans h⟩
  · exact Or.inr ⟨q, vm₁, B, X₁.warmed, X', hpost, hstep₁ _ fun acts => by rw [doInvoke_state]; exact hsteps⟩
theorem vx_callS (X : Stand p l e R s m args below meth c T locs cells slots) (hexec : p.tables.exec = Jvm.exec) {own : String} {index : Nat} {y : MethodName} {bytes : ByteArray} {maxL : Nat} {ret : Option FieldType}
    (hown : s.vm.findClass own = some m.cls) (hlink : (Cond.methodLink own index y).before args s = true) (hstat : (Cond.static y).before args s = true) (hinit : (Cond.initialized y.cls).before args s = true)
    (hcode : (Cond.code y bytes maxL ret).before args s = true) (hy : y.cls ≠ "java/lang/invoke/MethodHandle" ∧ y.cls ≠ "java/lang/invoke/VarHandle")
    {W9 : Nat} {Pre : Pt → Array Value → Prop} {Post : Pt → Array Value → Option Value → Pt → Prop} {PostX : Pt → Array Value → Addr → Pt → Prop} (hK : vx_Back l R p e below s args y 3 W9 Pre Post PostX)
    {g : JFrame} (hg : g.method = m) (hsize : g.locals.size = c.maxLocals) {argsL rest : List Value} (hlen : ∀ sig, parseMethodDescriptor y.desc = some sig → argsL.length = sig.parameters.length)
    (hstack : g.stack = argsL.reverse ++ rest) (hW : 2 * g.monitorRoom + (rest.map fun v => v.category).sum ≤ W9) (hdg : decode c.code g.pc = .ok (.invokestatic index, 3))
    (hpre : ∀ vm₁, s.WarmedH vm₁ → Pre ⟨T.setVm vm₁, locs, cells, slots⟩ argsL.toArray) :
    (∃ (v : Option Value) (vm₁ : Vm) (B : Pt), s.WarmedH vm₁ ∧ Stand p l e R s m args below meth c B.U B.locs B.cells B.slots ∧ Post ⟨T.setVm vm₁, locs, cells, slots⟩ argsL.toArray v B ∧
      ∀ target, Steps p.tables e below (B.U.setTop { g with pc := g.pc + 3, stack := v.toList ++ rest }) target → Steps p.tables e below (T.setTop g) target) ∨
    (∃ (q : Addr) (vm₁ : Vm) (B : Pt), s.WarmedH vm₁ ∧ Stand p l e R s m args below meth c B.U B.locs B.cells B.slots ∧ PostX ⟨T.setVm vm₁, locs, cells, slots⟩ argsL.toArray q B ∧
      Steps p.tables e below (T.setTop g) ((B.U.setTop { g with stack := rest }).pushFrame (.throwing q))) := by
  obtain ⟨mk, hnamed⟩ := Cond.code_named hcode
  obtain ⟨methM, cM, hmethM, -, -, -, -, -, -, hsigM⟩ := Cond.code_spec hnamed hcode
  have hstatic : methM.isStatic = true := Cond.static_spec hnamed hmethM hstat
  obtain ⟨kP, hkP, -⟩ := className_of_methodNamed hnamed
  have hinitP : kP.init = .initialized := Cond.initialized_spec (findClass_of_methodNamed hnamed) hkP hinit
  obtain ⟨vm₁, X₁, hstep₁⟩ := X.invokestatic hexec hown hlink hnamed hmethM hstatic hkP hinitP hy (g := g) hg (argsL := argsL) (rest := rest) (hlen _ hsigM) hstack hdg
  rcases hK m meth c ⟨T.setVm vm₁, locs, cells, slots⟩ { g with stack := rest } (.invokestatic index) mk argsL.toArray X₁ hg hsize hdg hW (X₁.named hnamed) (hpre vm₁ X₁.warmed) with ⟨v, B, X', hpost, hsteps⟩ | ⟨q, B, X', hpost, hsteps⟩
  · exact Or.inl ⟨v, vm₁, B, X₁.warmed, X', hpost, fun target h => hstep₁ _ fun acts => by rw [doInvoke_state]; exact hsteps.trans h⟩
  · exact Or.inr ⟨q, vm₁, B, X₁.warmed, X', hpost, hstep₁ _ fun acts => by rw [doInvoke_state]; exact hsteps⟩
end Calls
theorem vx_cls {s : State} {T : State} {vm₁ : Vm} {E : String} {k : ClassId} (hW : s.WarmedH vm₁) (h : (T.setVm vm₁).vm.findClass E = some k) : s.vm.findClass E = some k := by
  have h1 : vm₁.findClass E = some k := h
  rw [hW.alike.findClass] at h1
  exact h1
/-- the method's frame g, with q thrown over it -/
def vx_W (p : Program) (l : Launch) (e : Env) (R : Room) (s : State) (m : MethodId) (args : Array Value) (below : List Frame) (meth : Method) (c : Code) (H : Heap) (locs : List Loc) (cells slots : Nat) (Q : State → Prop) (g : JFrame) (q : Addr) : Prop :=
  ∀ T : State, T.heap = H → Stand p l e R s m args below meth c T locs cells slots → ∃ t, Steps p.tables e below ((T.setTop g).pushFrame (.throwing q)) t ∧ Q t
def vx_Run (p : Program) (l : Launch) (e : Env) (R : Room) (s : State) (m : MethodId) (args : Array Value) (below : List Frame) (meth : Method) (c : Code) (H : Heap) (locs : List Loc) (cells slots mc ms : Nat) (g : JFrame) (rest : List Value) (Qa : State → Outcome → State → Prop) (XC : String → State → State → Prop) (free : Addr → Prop) : Prop :=
  ∀ T : State, T.heap = H → Stand p l e R s m args below meth c T locs cells slots →
    (∃ (v : Option Value) (st₀ t T' : State) (L : List Loc), st₀.heap = H ∧ Stand p l e R s m args below meth c T' (locs ++ L) (cells + mc) (slots + ms) ∧ (∀ q ∈ L, free q.base) ∧ T'.heap = t.heap ∧ T'.vm = t.vm ∧ Qa st₀ (.returned v) t ∧
      Goes p e below T g T' { g with pc := g.pc + 3, stack := v.toList ++ rest }) ∨
    (∃ (q : Addr) (st₀ t T' : State) (L : List Loc) (E : String) (ce : Cell), st₀.heap = H ∧ Stand p l e R s m args below meth c T' (locs ++ L) (cells + mc) (slots + ms) ∧ (∀ z ∈ L, free z.base) ∧ T'.heap = t.heap ∧ T'.vm = t.vm ∧ XC E st₀ t ∧ t.heap[q]? = some ce ∧ ce.vm = .none ∧ s.vm.findClass E = some ce.cls ∧
      Steps p.tables e below (T.setTop g) ((T'.setTop { g with stack := rest }).pushFrame (.throwing q)))
def vx_X {S : Type} (px : S → Prop) (B : String → S → State → Prop) (A : Nat → Prop) : String → State → State → Prop := fun E st t => ∃ u : S, px u ∧ B E u t ∧ va_F A st t
section Runs
variable {p : Program} {l : Launch} {e : Env} {R : Room} {s : State} {m : MethodId} {args : Array Value} {below : List Frame} {meth : Method} {c : Code} {H : Heap} {locs : List Loc} {cells slots : Nat}
variable {y : MethodName} {bytes cc : ByteArray} {maxL nL mc ms n index : Nat} {ret : Option FieldType} {ws : List Cond} {rm : Room} {Pc : Array Value → State → Prop} {Qc : Array Value → State → Outcome → State → Prop} {XC : String → State → State → Prop} {free : Addr → Prop} {Ts : List Cond} {own C : String} {b : Addr} {As rest : List Value} {g : JFrame}
theorem vx_callBack (cb : CallB R s args own index y bytes maxL ret ws rm mc ms n) (hM : vx_Met l y ws rm Pc Qc XC mc ms free) (hbl : FrameBlind Pc) : vx_Back l R p e below s args y 3 8 (PreOf R mc ms Pc) (PostOf Qc mc ms free) (vx_Post XC mc ms free) := by
  obtain ⟨hrc, hrs, hfr, hlo, hws, hcw, -, hini, -⟩ := cb
  exact vx_back (bytes := bytes) (maxL := maxL) (ret := ret) hM hbl hrc hrs hfr hlo hws hcw (fun a' U hW => word_at hW (Or.inl (by first | rfl | simp [Cond.onTables, Cond.keeps, Cond.steady])) hini)
theorem vx_runV (S : CallFix p m c cc nL s args Ts own) (hM : vx_Met l y ws rm Pc Qc XC mc ms free) (cw : CallW R s args own C index y bytes maxL ret ws rm mc ms n) (hp : PreV s H C b Pc As)
    (hg : g.method = m) (hn : As.length = n) (hsize : g.locals.size = nL) (hstack : g.stack = As.reverse ++ .ref b :: rest) (hW : 2 * g.monitorRoom + (rest.map fun v => v.category).sum ≤ 8) (hdg : decode cc g.pc = .ok (.invokevirtual index, 3)) (hf : cells + mc ≤ R.cells ∧ slots + ms ≤ R.slots) :
    vx_Run p l e R s m args below meth c H locs cells slots mc ms g rest (Qc (Value.ref b :: As).toArray) XC free := by
  have hK : vx_Back l R p e below s args y 3 8 (PreOf R mc ms Pc) (PostOf Qc mc ms free) (vx_Post XC mc ms free) := vx_callBack cw.1 hM hp.1
  obtain ⟨⟨-, -, -, -, -, -, hcode, -, hy, hlen, hl⟩, hin, hse⟩ := cw
  obtain ⟨hx, hb, hml, ho, -⟩ := S
  obtain ⟨-, ⟨cellB, hcB, hoB, hclB⟩, hPc⟩ := hp
  intro T hT X
  rcases vx_callV X hx (C := C) (bytes := bytes) (maxL := maxL) (ret := ret) ho hl hin hse hcode hy hK (by rw [hT]; exact hcB) hoB hclB hg (hsize.trans hml.symm) (argsL := As) (rest := rest) (fun sig h => hn.trans (hlen sig h)) hstack hW (by rw [hb]; exact hdg)
    (fun vm₁ hW₁ => ⟨hf.1, hf.2, hPc (T.setVm vm₁) hT hW₁⟩) with ⟨v, vm₁, ⟨U', l2, c2, s2⟩, hW₁, X', ⟨g', mk, t, L, e1, e2, hq, h1, hL, h2, h3⟩, st⟩ | ⟨q, vm₁, ⟨U', l2, c2, s2⟩, hW₁, X', ⟨g', mk, t, L, E, ce, e1, e2, hq, hce, hcv, hcl, h1, hL, h2, h3⟩, st⟩
  · dsimp only [Pt.U, Pt.locs, Pt.cells, Pt.slots] at X' e1 e2 h1 h2 h3 st
    subst h1; subst h2; subst h3
    exact Or.inl ⟨v, (T.setVm vm₁).calling g' mk (Value.ref b :: As).toArray, t, U', L, hT, X', hL, e1, e2, hq, st⟩
  · dsimp only [Pt.U, Pt.locs, Pt.cells, Pt.slots] at X' e1 e2 h1 h2 h3 st hcl
    subst h1; subst h2; subst h3
    exact Or.inr ⟨q, (T.setVm vm₁).calling g' mk (Value.ref b :: As).toArray, t, U', L, E, ce, hT, X', hL, e1, e2, hq, hce, hcv, vx_cls hW₁ hcl, st⟩
theorem vx_runS (S : CallFix p m c cc nL s args Ts own) (hM : vx_Met l y ws rm Pc Qc XC mc ms free) (cw : CallB R s args own index y bytes maxL ret ws rm mc ms n ∧ (Cond.static y).before args s = true) (hp : PreS s H Pc As)
    (hg : g.method = m) (hn : As.length = n) (hsize : g.locals.size = nL) (hstack : g.stack = As.reverse ++ rest) (hW : 2 * g.monitorRoom + (rest.map fun v => v.category).sum ≤ 8) (hdg : decode cc g.pc = .ok (.invokestatic index, 3)) (hf : cells + mc ≤ R.cells ∧ slots + ms ≤ R.slots) :
    vx_Run p l e R s m args below meth c H locs cells slots mc ms g rest (Qc As.toArray) XC free := by
  have hK : vx_Back l R p e below s args y 3 8 (PreOf R mc ms Pc) (PostOf Qc mc ms free) (vx_Post XC mc ms free) := vx_callBack cw.1 hM hp.1
  obtain ⟨⟨-, -, -, -, -, -, hcode, hini, hy, hlen, hl⟩, hstt⟩ := cw
  obtain ⟨hx, hb, hml, ho, -⟩ := S
  intro T hT X
  rcases vx_callS X hx (bytes := bytes) (maxL := maxL) (ret := ret) ho hl hstt hini hcode hy hK hg (hsize.trans hml.symm) (argsL := As) (rest := rest) (fun sig h => hn.trans (hlen sig h)) hstack hW (by rw [hb]; exact hdg)
    (fun vm₁ hW₁ => ⟨hf.1, hf.2, hp.2 (T.setVm vm₁) hT hW₁⟩) with ⟨v, vm₁, ⟨U', l2, c2, s2⟩, hW₁, X', ⟨g', mk, t, L, e1, e2, hq, h1, hL, h2, h3⟩, st⟩ | ⟨q, vm₁, ⟨U', l2, c2, s2⟩, hW₁, X', ⟨g', mk, t, L, E, ce, e1, e2, hq, hce, hcv, hcl, h1, hL, h2, h3⟩, st⟩
  · dsimp only [Pt.U, Pt.locs, Pt.cells, Pt.slots] at X' e1 e2 h1 h2 h3 st
    subst h1; subst h2; subst h3
    exact Or.inl ⟨v, (T.setVm vm₁).calling g' mk As.toArray, t, U', L, hT, X', hL, e1, e2, hq, st⟩
  · dsimp only [Pt.U, Pt.locs, Pt.cells, Pt.slots] at X' e1 e2 h1 h2 h3 st hcl
    subst h1; subst h2; subst h3
    exact Or.inr ⟨q, (T.setVm vm₁).calling g' mk As.toArray, t, U', L, E, ce, hT, X', hL, e1, e2, hq, hce, hcv, vx_cls hW₁ hcl, st⟩
end Runs
section Rows
variable {p : Program} {l : Launch} {e : Env} {R : Room} {s : State} {m : MethodId} {args : Array Value} {below : List Frame} {meth : Method} {c : Code} {H : Heap} {locs : List Loc} {cells slots : Nat} {Q : State → Prop}
variable {mc ms : Nat} {free : Addr → Prop} {A0 A1 : Nat → Prop} {H0 : Heap} {a : Array Value} {pc : Nat} {ls : Array Slot} {st0 rest : List Value}
theorem vx_keep {st₀ t T' : State} {L : List Loc} (h0 : st₀.heap = H) (e1 : T'.heap = t.heap) (hS : va_S A0 H0 H locs) (hA : ∀ q, q < H.size → A1 q → A0 q) (hf : ∀ q, free q → A0 q) (hL : ∀ q ∈ L, free q.base) (hF : va_F A1 st₀ t) :
    H.size ≤ T'.heap.size ∧ (∀ q : Nat, q < H.size → ¬ A1 q → T'.heap[q]? = H[q]?) ∧ va_S A0 H0 T'.heap (locs ++ L) := by
  obtain ⟨hz, hk⟩ := hF
  rw [h0] at hz hk
  exact ⟨by rw [e1]; exact hz, fun q h1 h2 => by rw [e1]; exact hk q h1 h2,
    ⟨Nat.le_trans hS.1 (by rw [e1]; exact hz), fun q h1 h2 => by rw [e1, hk q (Nat.lt_of_lt_of_le h1 hS.1) (fun z => h2 (hA q (Nat.lt_of_lt_of_le h1 hS.1) z))]; exact hS.2.1 q h1 h2, fun q hq => by
      rcases List.mem_append.mp hq with h | h
      · exact hS.2.2 q h
      · exact hf _ (hL q h)⟩⟩
theorem vx_calli {S SX : Type} {post : Int32 → S → Prop} {px : SX → Prop} {B : S → State → Prop} {BX : String → SX → State → Prop} {AX : Nat → Prop} (hr : vx_Run p l e R s m args below meth c H locs cells slots mc ms (F0 m pc ls st0) rest (va_Qi post B A1 a) (vx_X px BX AX) free) (hS : va_S A0 H0 H locs) (hA : ∀ q, q < H.size → A1 q → A0 q) (hf : ∀ q, free q → A0 q) (hAX : ∀ q, q < H.size → AX q → A0 q)
    (kx : ∀ (E : String) (ce : Cell) (q9 : Addr) (u : SX) (t : State) (H1 : Heap) (locs1 : List Loc), t.heap = H1 → s.vm.Alike t.vm → px u → BX E u t → H.size ≤ H1.size → (∀ q : Nat, q < H.size → ¬ AX q → H1[q]? = H[q]?) → va_S A0 H0 H1 locs1 → H1[q9]? = some ce → ce.vm = .none → s.vm.findClass E = some ce.cls → vx_W p l e R s m args below meth c H1 locs1 (cells + mc) (slots + ms) Q (F0 m pc ls rest) q9)
    (kk : ∀ (r : Int32) (u : S) (t : State) (H1 : Heap) (locs1 : List Loc), t.heap = H1 → s.vm.Alike t.vm → post r u → B u t → H.size ≤ H1.size → (∀ q : Nat, q < H.size → ¬ A1 q → H1[q]? = H[q]?) → va_S A0 H0 H1 locs1 → W p l e R s m args below meth c H1 locs1 (cells + mc) (slots + ms) Q (F0 m (pc + 3) ls (.int r :: rest))) : W p l e R s m args below meth c H locs cells slots Q (F0 m pc ls st0) := by
  intro T hT X
  rcases hr T hT X with ⟨v, st₀, t, T', L, h0, X', hL, e1, e2, ⟨⟨r, u, hv, hp, hb⟩, hF⟩, st⟩ | ⟨q, st₀, t, T', L, E, ce, h0, X', hL, e1, e2, ⟨u, hp, hb, hF⟩, hce, hcv, hcl, st⟩
  · cases hv
    obtain ⟨k1, k2, k3⟩ := vx_keep h0 e1 hS hA hf hL hF
    obtain ⟨t2, a1, b1⟩ := kk r u t T'.heap (locs ++ L) e1.symm (by rw [← e2]; exact X'.warmed.alike) hp hb k1 k2 k3 T' rfl X'
    exact ⟨t2, st t2 a1, b1⟩
  · obtain ⟨k1, k2, k3⟩ := vx_keep h0 e1 hS hAX hf hL hF
    obtain ⟨t2, a1, b1⟩ := kx E ce q u t T'.heap (locs ++ L) e1.symm (by rw [← e2]; exact X'.warmed.alike) hp hb k1 k2 k3 (by rw [e1]; exact hce) hcv hcl T' rfl X'
    exact ⟨t2, st.trans a1, b1⟩
theorem vx_calll {S SX : Type} {post : Int64 → S → Prop} {px : SX → Prop} {B : S → State → Prop} {BX : String → SX → State → Prop} {AX : Nat → Prop} (hr : vx_Run p l e R s m args below meth c H locs cells slots mc ms (F0 m pc ls st0) rest (va_Ql post B A1 a) (vx_X px BX AX) free) (hS : va_S A0 H0 H locs) (hA : ∀ q, q < H.size → A1 q → A0 q) (hf : ∀ q, free q → A0 q) (hAX : ∀ q, q < H.size → AX q → A0 q)
    (kx : ∀ (E : String) (ce : Cell) (q9 : Addr) (u : SX) (t : State) (H1 : Heap) (locs1 : List Loc), t.heap = H1 → s.vm.Alike t.vm → px u → BX E u t → H.size ≤ H1.size → (∀ q : Nat, q < H.size → ¬ AX q → H1[q]? = H[q]?) → va_S A0 H0 H1 locs1 → H1[q9]? = some ce → ce.vm = .none → s.vm.findClass E = some ce.cls → vx_W p l e R s m args below meth c H1 locs1 (cells + mc) (slots + ms) Q (F0 m pc ls rest) q9)
    (kk : ∀ (r : Int64) (u : S) (t : State) (H1 : Heap) (locs1 : List Loc), t.heap = H1 → s.vm.Alike t.vm → post r u → B u t → H.size ≤ H1.size → (∀ q : Nat, q < H.size → ¬ A1 q → H1[q]? = H[q]?) → va_S A0 H0 H1 locs1 → W p l e R s m args below meth c H1 locs1 (cells + mc) (slots + ms) Q (F0 m (pc + 3) ls (.long r :: rest))) : W p l e R s m args below meth c H locs cells slots Q (F0 m pc ls st0) := by
  intro T hT X
  rcases hr T hT X with ⟨v, st₀, t, T', L, h0, X', hL, e1, e2, ⟨⟨r, u, hv, hp, hb⟩, hF⟩, st⟩ | ⟨q, st₀, t, T', L, E, ce, h0, X', hL, e1, e2, ⟨u, hp, hb, hF⟩, hce, hcv, hcl, st⟩
  · cases hv
    obtain ⟨k1, k2, k3⟩ := vx_keep h0 e1 hS hA hf hL hF
    obtain ⟨t2, a1, b1⟩ := kk r u t T'.heap (locs ++ L) e1.symm (by rw [← e2]; exact X'.warmed.alike) hp hb k1 k2 k3 T' rfl X'
    exact ⟨t2, st t2 a1, b1⟩
  · obtain ⟨k1, k2, k3⟩ := vx_keep h0 e1 hS hAX hf hL hF
    obtain ⟨t2, a1, b1⟩ := kx E ce q u t T'.heap (locs ++ L) e1.symm (by rw [← e2]; exact X'.warmed.alike) hp hb k1 k2 k3 (by rw [e1]; exact hce) hcv hcl T' rfl X'
    exact ⟨t2, st.trans a1, b1⟩
theorem vx_callf {S SX : Type} {post : UInt32 → S → Prop} {px : SX → Prop} {B : S → State → Prop} {BX : String → SX → State → Prop} {AX : Nat → Prop} (hr : vx_Run p l e R s m args below meth c H locs cells slots mc ms (F0 m pc ls st0) rest (va_Qf post B A1 a) (vx_X px BX AX) free) (hS : va_S A0 H0 H locs) (hA : ∀ q, q < H.size → A1 q → A0 q) (hf : ∀ q, free q → A0 q) (hAX : ∀ q, q < H.size → AX q → A0 q)
    (kx : ∀ (E : String) (ce : Cell) (q9 : Addr) (u : SX) (t : State) (H1 : Heap) (locs1 : List Loc), t.heap = H1 → s.vm.Alike t.vm → px u → BX E u t → H.size ≤ H1.size → (∀ q : Nat, q < H.size → ¬ AX q → H1[q]? = H[q]?) → va_S A0 H0 H1 locs1 → H1[q9]? = some ce → ce.vm = .none → s.vm.findClass E = some ce.cls → vx_W p l e R s m args below meth c H1 locs1 (cells + mc) (slots + ms) Q (F0 m pc ls rest) q9)
    (kk : ∀ (r : UInt32) (u : S) (t : State) (H1 : Heap) (locs1 : List Loc), t.heap = H1 → s.vm.Alike t.vm → post r u → B u t → H.size ≤ H1.size → (∀ q : Nat, q < H.size → ¬ A1 q → H1[q]? = H[q]?) → va_S A0 H0 H1 locs1 → W p l e R s m args below meth c H1 locs1 (cells + mc) (slots + ms) Q (F0 m (pc + 3) ls (.float r :: rest))) : W p l e R s m args below meth c H locs cells slots Q (F0 m pc ls st0) := by
  intro T hT X
  rcases hr T hT X with ⟨v, st₀, t, T', L, h0, X', hL, e1, e2, ⟨⟨r, u, hv, hp, hb⟩, hF⟩, st⟩ | ⟨q, st₀, t, T', L, E, ce, h0, X', hL, e1, e2, ⟨u, hp, hb, hF⟩, hce, hcv, hcl, st⟩
  · cases hv
    obtain ⟨k1, k2, k3⟩ := vx_keep h0 e1 hS hA hf hL hF
    obtain ⟨t2, a1, b1⟩ := kk r u t T'.heap (locs ++ L) e1.symm (by rw [← e2]; exact X'.warmed.alike) hp hb k1 k2 k3 T' rfl X'
    exact ⟨t2, st t2 a1, b1⟩
  · obtain ⟨k1, k2, k3⟩ := vx_keep h0 e1 hS hAX hf hL hF
    obtain ⟨t2, a1, b1⟩ := kx E ce q u t T'.heap (locs ++ L) e1.symm (by rw [← e2]; exact X'.warmed.alike) hp hb k1 k2 k3 (by rw [e1]; exact hce) hcv hcl T' rfl X'
    exact ⟨t2, st.trans a1, b1⟩
theorem vx_calld {S SX : Type} {post : UInt64 → S → Prop} {px : SX → Prop} {B : S → State → Prop} {BX : String → SX → State → Prop} {AX : Nat → Prop} (hr : vx_Run p l e R s m args below meth c H locs cells slots mc ms (F0 m pc ls st0) rest (va_Qd post B A1 a) (vx_X px BX AX) free) (hS : va_S A0 H0 H locs) (hA : ∀ q, q < H.size → A1 q → A0 q) (hf : ∀ q, free q → A0 q) (hAX : ∀ q, q < H.size → AX q → A0 q)
    (kx : ∀ (E : String) (ce : Cell) (q9 : Addr) (u : SX) (t : State) (H1 : Heap) (locs1 : List Loc), t.heap = H1 → s.vm.Alike t.vm → px u → BX E u t → H.size ≤ H1.size → (∀ q : Nat, q < H.size → ¬ AX q → H1[q]? = H[q]?) → va_S A0 H0 H1 locs1 → H1[q9]? = some ce → ce.vm = .none → s.vm.findClass E = some ce.cls → vx_W p l e R s m args below meth c H1 locs1 (cells + mc) (slots + ms) Q (F0 m pc ls rest) q9)
    (kk : ∀ (r : UInt64) (u : S) (t : State) (H1 : Heap) (locs1 : List Loc), t.heap = H1 → s.vm.Alike t.vm → post r u → B u t → H.size ≤ H1.size → (∀ q : Nat, q < H.size → ¬ A1 q → H1[q]? = H[q]?) → va_S A0 H0 H1 locs1 → W p l e R s m args below meth c H1 locs1 (cells + mc) (slots + ms) Q (F0 m (pc + 3) ls (.double r :: rest))) : W p l e R s m args below meth c H locs cells slots Q (F0 m pc ls st0) := by
  intro T hT X
  rcases hr T hT X with ⟨v, st₀, t, T', L, h0, X', hL, e1, e2, ⟨⟨r, u, hv, hp, hb⟩, hF⟩, st⟩ | ⟨q, st₀, t, T', L, E, ce, h0, X', hL, e1, e2, ⟨u, hp, hb, hF⟩, hce, hcv, hcl, st⟩
  · cases hv
    obtain ⟨k1, k2, k3⟩ := vx_keep h0 e1 hS hA hf hL hF
    obtain ⟨t2, a1, b1⟩ := kk r u t T'.heap (locs ++ L) e1.symm (by rw [← e2]; exact X'.warmed.alike) hp hb k1 k2 k3 T' rfl X'
    exact ⟨t2, st t2 a1, b1⟩
  · obtain ⟨k1, k2, k3⟩ := vx_keep h0 e1 hS hAX hf hL hF
    obtain ⟨t2, a1, b1⟩ := kx E ce q u t T'.heap (locs ++ L) e1.symm (by rw [← e2]; exact X'.warmed.alike) hp hb k1 k2 k3 (by rw [e1]; exact hce) hcv hcl T' rfl X'
    exact ⟨t2, st.trans a1, b1⟩
theorem vx_callv {S SX : Type} {post : S → Prop} {px : SX → Prop} {B : S → State → Prop} {BX : String → SX → State → Prop} {AX : Nat → Prop} (hr : vx_Run p l e R s m args below meth c H locs cells slots mc ms (F0 m pc ls st0) rest (va_Qv post B A1 a) (vx_X px BX AX) free) (hS : va_S A0 H0 H locs) (hA : ∀ q, q < H.size → A1 q → A0 q) (hf : ∀ q, free q → A0 q) (hAX : ∀ q, q < H.size → AX q → A0 q)
    (kx : ∀ (E : String) (ce : Cell) (q9 : Addr) (u : SX) (t : State) (H1 : Heap) (locs1 : List Loc), t.heap = H1 → s.vm.Alike t.vm → px u → BX E u t → H.size ≤ H1.size → (∀ q : Nat, q < H.size → ¬ AX q → H1[q]? = H[q]?) → va_S A0 H0 H1 locs1 → H1[q9]? = some ce → ce.vm = .none → s.vm.findClass E = some ce.cls → vx_W p l e R s m args below meth c H1 locs1 (cells + mc) (slots + ms) Q (F0 m pc ls rest) q9)
    (kk : ∀ (u : S) (t : State) (H1 : Heap) (locs1 : List Loc), t.heap = H1 → s.vm.Alike t.vm → post u → B u t → H.size ≤ H1.size → (∀ q : Nat, q < H.size → ¬ A1 q → H1[q]? = H[q]?) → va_S A0 H0 H1 locs1 → W p l e R s m args below meth c H1 locs1 (cells + mc) (slots + ms) Q (F0 m (pc + 3) ls (rest))) : W p l e R s m args below meth c H locs cells slots Q (F0 m pc ls st0) := by
  intro T hT X
  rcases hr T hT X with ⟨v, st₀, t, T', L, h0, X', hL, e1, e2, ⟨⟨u, hv, hp, hb⟩, hF⟩, st⟩ | ⟨q, st₀, t, T', L, E, ce, h0, X', hL, e1, e2, ⟨u, hp, hb, hF⟩, hce, hcv, hcl, st⟩
  · cases hv
    obtain ⟨k1, k2, k3⟩ := vx_keep h0 e1 hS hA hf hL hF
    obtain ⟨t2, a1, b1⟩ := kk u t T'.heap (locs ++ L) e1.symm (by rw [← e2]; exact X'.warmed.alike) hp hb k1 k2 k3 T' rfl X'
    exact ⟨t2, st t2 a1, b1⟩
  · obtain ⟨k1, k2, k3⟩ := vx_keep h0 e1 hS hAX hf hL hF
    obtain ⟨t2, a1, b1⟩ := kx E ce q u t T'.heap (locs ++ L) e1.symm (by rw [← e2]; exact X'.warmed.alike) hp hb k1 k2 k3 (by rw [e1]; exact hce) hcv hcl T' rfl X'
    exact ⟨t2, st.trans a1, b1⟩
end Rows
section Ends
variable {p : Program} {l : Launch} {e : Env} {R : Room} {s : State} {m : MethodId} {args : Array Value} {below : List Frame} {meth : Method} {c : Code} {H : Heap} {locs : List Loc} {cells slots : Nat} {Q : State → Prop}
variable {mc ms : Nat} {free : Addr → Prop} {A0 A1 : Nat → Prop} {H0 : Heap} {a : Array Value} {ls : Array Slot} {st0 rest : List Value}
variable {Qc : Array Value → State → Outcome → State → Prop} {XC : String → State → State → Prop}
/-- what a body that may throw owes at its end -/
def vx_MQ (below : List Frame) (Qc : Array Value → State → Outcome → State → Prop) (XC : String → State → State → Prop) (a : Array Value) (s : State) (mc ms : Nat) (free : Addr → Prop) : State → Prop := fun t =>
  ∃ o, t.status = .running ∧ Ended t below o ∧ vx_Q Qc XC mc ms free a s o t
theorem vx_ret {g : JFrame} {mc ms : Nat} (k : W p l e R s m args below meth c H locs cells slots (MQ below Qc args s mc ms free) g) : W p l e R s m args below meth c H locs cells slots (vx_MQ below Qc XC args s mc ms free) g := by
  intro T hT X
  obtain ⟨t, a1, o, b1, b2, b3, b4⟩ := k T hT X
  exact ⟨t, a1, o, b1, b2, Or.inl ⟨b3, b4⟩⟩
/-- not caught here: it goes on to the caller -/
theorem vx_widen {g : JFrame} {q : Addr} {k n : Nat} (h1 : cells ≤ k) (h2 : slots ≤ n) (kk : vx_W p l e R s m args below meth c H locs k n Q g q) : vx_W p l e R s m args below meth c H locs cells slots Q g q := fun T hT X => kk T hT (stand_widen X h1 h2)
theorem vx_out {pc : Nat} {E : String} {ce : Cell} {q : Addr} {mc ms : Nat} (hout : ∀ x ∈ c.exceptionTable.toList, covers x pc = false) (hlocks : meth.locks = false) (hcell : H[q]? = some ce) (hv : ce.vm = .none) (hcl : s.vm.findClass E = some ce.cls)
    (hx : ∀ t : State, t.heap = H → s.vm.Alike t.vm → XC E s t) (hf : ∀ z ∈ locs, free z.base) (hc : cells ≤ mc) (hs : slots ≤ ms) :
    vx_W p l e R s m args below meth c H locs cells slots (vx_MQ below Qc XC args s mc ms free) (F0 m pc ls rest) q := by
  intro T hT X
  obtain ⟨st1, hrun, hend, hW, hsm⟩ := X.leaveThrown q (g := F0 m pc ls rest) rfl rfl rfl hout hlocks
  have hcell9 : (T.setFrames (.throwing q :: below)).heap[q]? = some ce := by
    show T.heap[q]? = some ce
    rw [hT]; exact hcell
  exact ⟨_, st1, .threw q, hrun, hend, Or.inr ⟨q, rfl, E, ce, locs, hx _ hT hW.alike, hcell9, hv, hcl, hW, hsm.mono hc hs, hf⟩⟩
theorem vx_frame {U : State} {k n : Nat} (h : s.sameButNew ({ U with vm := s.vm } : State) locs k n) : s.heap.size ≤ U.heap.size ∧ ∀ q : Nat, q < s.heap.size → (∀ z ∈ locs, z.base ≠ q) → U.heap[q]? = s.heap[q]? := by
  obtain ⟨-, h2, -, -, -, h6⟩ := h
  refine ⟨h2, fun q hq hz => ?_⟩
  obtain ⟨c9, e1, e2, e3, e4⟩ := h6 q _ (Array.getElem?_eq_getElem hq)
  have hs : c9.slots = (s.heap[q]).slots := Array.ext_getElem? fun i => e4 i fun hm => hz _ hm rfl
  have h9 : c9 = s.heap[q] := by
    rw [hs] at e2
    exact e2
  have e5 : U.heap[q]? = some c9 := e1
  rw [e5, h9, Array.getElem?_eq_getElem hq]
/-- the words of a throw but the four that speak of the heap -/
def vx_no (w : Cond) : Bool := decide (w ≠ .isRef (.static Bundle.tN "UNASSIGNED_STACK" Bundle.steD)) && decide (w ≠ .isRef (.static Bundle.tN "SUPPRESSED_SENTINEL" Bundle.listD)) && decide (w ≠ .laysStatic Bundle.tN "UNASSIGNED_STACK" Bundle.steD) && decide (w ≠ .laysStatic Bundle.tN "SUPPRESSED_SENTINEL" Bundle.listD)
def vx_at0 (own : String) (ic : Nat) (X : String) (names : List String) : List Cond := (Bundle.ownAtoms0 own ic X names).filter vx_no
def vx_atS (own : String) (ic : Nat) (X : String) (names : List String) : List Cond := (Bundle.ownAtoms own ic X names).filter vx_no
/-- a word that the tables alone decide, or a good one -/
def vx_ot (w : Cond) : Bool := w.onTables || goodWord w
theorem vx_ot_at {args a' : Array Value} {s U : State} {w : Cond} (hW : s.WarmedH U.vm) (hvm : s.vm = U.vm) (hg : vx_ot w = true) (h : w.before args s = true) : w.before a' U = true := by
  simp only [vx_ot, Bool.or_eq_true] at hg
  rcases hg with hg | hg
  · exact va_tabs hg hvm h
  · exact word_at hW (good_of_word hg) h
/-- a list's words: the good ones out of the method's own list, the others by premises of their own -/
theorem vx_hat {args : Array Value} {s : State} {L B : List Cond} (h1 : ∀ w ∈ L.filter goodWord, w.before args s = true) (h2 : ∀ w ∈ L.filter (fun w => !goodWord w), w ∈ B) (h3 : ∀ w ∈ B, w.before args s = true) : ∀ w ∈ L, w.before args s = true := by
  intro w hw
  by_cases g : goodWord w = true
  · exact h1 w (List.mem_filter.mpr ⟨hw, g⟩)
  · refine h3 w (h2 w (List.mem_filter.mpr ⟨hw, ?_⟩))
    show (!goodWord w) = true
    cases hgw : goodWord w
    · rfl
    · exact absurd hgw g
theorem vx_c {args : Array Value} {s : State} {w : Cond} {B : List Cond} (h : w.before args s = true) (t : ∀ w ∈ B, w.before args s = true) : ∀ w' ∈ w :: B, w'.before args s = true := fun w' h' => (List.mem_cons.mp h').elim (fun e => by rw [e]; exact h) (t w')
theorem vx_n {args : Array Value} {s : State} : ∀ w ∈ ([] : List Cond), w.before args s = true := fun _ h => nomatch h
theorem vx_own {args : Array Value} {s : State} {L : List Cond} (h1 : ∀ w ∈ L.filter vx_no, w.before args s = true)
    (hU : (Cond.isRef (.static Bundle.tN "UNASSIGNED_STACK" Bundle.steD)).before args s = true) (hN : (Cond.isRef (.static Bundle.tN "SUPPRESSED_SENTINEL" Bundle.listD)).before args s = true)
    (lU : (Cond.laysStatic Bundle.tN "UNASSIGNED_STACK" Bundle.steD).before args s = true) (lN : (Cond.laysStatic Bundle.tN "SUPPRESSED_SENTINEL" Bundle.listD).before args s = true) : ∀ w ∈ L, w.before args s = true := by
  intro w hw
  by_cases e1 : w = .isRef (.static Bundle.tN "UNASSIGNED_STACK" Bundle.steD)
  · rw [e1]; exact hU
  · by_cases e2 : w = .isRef (.static Bundle.tN "SUPPRESSED_SENTINEL" Bundle.listD)
    · rw [e2]; exact hN
    · by_cases e3 : w = .laysStatic Bundle.tN "UNASSIGNED_STACK" Bundle.steD
      · rw [e3]; exact lU
      · by_cases e4 : w = .laysStatic Bundle.tN "SUPPRESSED_SENTINEL" Bundle.listD
        · rw [e4]; exact lN
        · exact h1 w (List.mem_filter.mpr ⟨hw, by unfold vx_no; rw [decide_eq_true e1, decide_eq_true e2, decide_eq_true e3, decide_eq_true e4]; rfl⟩)
/-- where a static field lies, its class's statics cell in H -/
def vx_L (C n d : String) (A : Nat → Prop) (U : State) (H : Heap) : Prop := ∃ (c : ClassId) (k : Class) (i : Nat) (f : Field) (a : Nat) (cell : Cell), U.vm.findClass C = some c ∧ U.fieldFound? C n d = some (c, k, i, f) ∧ f.isStatic = true ∧ k.statics = some a ∧ H[a]? = some cell ∧ cell.vm.isStatics = true ∧ cell.cls = c ∧ f.slot < cell.slots.size ∧ k.staticTypes[f.slot]? = some f.type ∧ ¬ A a
theorem vx_L.moved {C n d : String} {A : Nat → Prop} {u U : State} {H : Heap} (hvm : u.vm.Alike U.vm) (h : vx_L C n d A u H) : vx_L C n d A U H := by
  obtain ⟨c, k, i, f, a, cell, h1, h2, h3, h4, h5, h6, h7, h8, h9, h10⟩ := h
  obtain ⟨k', hi', he⟩ := State.fieldFound?_setVm hvm h2
  exact ⟨c, k', i, f, a, cell, by rw [hvm.findClass]; exact h1, hi', h3, by rw [he]; exact h4, h5, h6, h7, h8, by rw [he]; exact h9, h10⟩
theorem vx_L.kept {C n d : String} {A : Nat → Prop} {U : State} {H H1 : Heap} (h : vx_L C n d A U H) (hq : ∀ a : Nat, a < H.size → ¬ A a → H1[a]? = H[a]?) : vx_L C n d A U H1 := by
  obtain ⟨c, k, i, f, a, cell, h1, h2, h3, h4, h5, h6, h7, h8, h9, h10⟩ := h
  exact ⟨c, k, i, f, a, cell, h1, h2, h3, h4, by rw [hq a (Array.getElem?_eq_some_iff.mp h5).1 h10]; exact h5, h6, h7, h8, h9, h10⟩
theorem vx_L.narrow {C n d : String} {A B : Nat → Prop} {U : State} {H : Heap} (h : vx_L C n d A U H) (hAB : ∀ q, B q → A q) : vx_L C n d B U H := by
  obtain ⟨c, k, i, f, a, cell, h1, h2, h3, h4, h5, h6, h7, h8, h9, h10⟩ := h
  exact ⟨c, k, i, f, a, cell, h1, h2, h3, h4, h5, h6, h7, h8, h9, fun z => h10 (hAB _ z)⟩
theorem vx_L.word {C n d : String} {A : Nat → Prop} {s : State} {args : Array Value} (h : vx_L C n d A s s.heap) : (Cond.laysStatic C n d).before args s = true := by
  obtain ⟨c, k, i, f, a, cell, h1, h2, h3, h4, h5, h6, h7, h8, h9, -⟩ := h
  show (Cond.laysStatic C n d).holds args s none s [] = true
  exact Cond.laysStatic_of h1 h2 h3 h4 h5 h6 h7 h8 h9
/-- .. and what it holds: null or some reference -/
def vx_Zq (C n d : String) (A : Nat → Prop) (U : State) (H : Heap) : Prop := va_Zq C n d A U H ∧ vx_L C n d A U H
theorem vx_Zq.moved {C n d : String} {A : Nat → Prop} {u U : State} {H : Heap} (hvm : u.vm.Alike U.vm) (h : vx_Zq C n d A u H) : vx_Zq C n d A U H := ⟨va_Zq.moved hvm h.1, vx_L.moved hvm h.2⟩
theorem vx_Zq.kept {C n d : String} {A : Nat → Prop} {U : State} {H H1 : Heap} (h : vx_Zq C n d A U H) (hq : ∀ a : Nat, a < H.size → ¬ A a → H1[a]? = H[a]?) : vx_Zq C n d A U H1 := ⟨va_Zq.kept h.1 hq, vx_L.kept h.2 hq⟩
theorem vx_Zq.narrow {C n d : String} {A B : Nat → Prop} {U : State} {H : Heap} (h : vx_Zq C n d A U H) (hAB : ∀ q, B q → A q) : vx_Zq C n d B U H := ⟨va_Zq.narrow h.1 hAB, vx_L.narrow h.2 hAB⟩
theorem vx_Zqof {args : Array Value} {s : State} {C n d : String} {A : Nat → Prop} (hl : (Cond.laysStatic C n d).before args s = true) (hini : (Cond.initialized C).before args s = true) (h : (Cond.isRef (.static C n d)).before args s = true) (hA : ∀ a : Nat, a < s.heap.size → ¬ A a) : vx_Zq C n d A s s.heap := by
  refine ⟨va_Zqof hl hini h hA, ?_⟩
  obtain ⟨c, k, i, f, a, cell, h1, h2, h3, h4, h5, h6, h7, h8, h9⟩ := Cond.laysStatic_spec hl
  exact ⟨c, k, i, f, a, cell, h1, h2, h3, h4, h5, h6, h7, h8, h9, hA a (Array.getElem?_eq_some_iff.mp h5).1⟩
theorem vx_isRef {C n d : String} {v : Value} {A : Nat → Prop} {s : State} {args : Array Value} (h : va_Z C n d v A s s.heap) (hv : v.isRef = true) : (Cond.isRef (.static C n d)).before args s = true := by
  obtain ⟨cf, kf, fi, f, a, cell, h1, h2, h3, h4, h5, h6, h7, -⟩ := h
  have he : (Term.static C n d).eval args s none [] s = some v := by
    simp [Term.eval, State.fieldNamed?, h1, h2, h4, h5, h6, h7]
  simp only [Cond.before, Cond.holds, Cond.value, he]
  cases v <;> simp_all [Value.isRef]
theorem vx_isRefq {C n d : String} {A : Nat → Prop} {s : State} {args : Array Value} (h : va_Zq C n d A s s.heap) : (Cond.isRef (.static C n d)).before args s = true := by
  rcases h with h | ⟨t, h⟩
  · exact vx_isRef h rfl
  · exact vx_isRef h rfl
/-- the same frame, seen from here: as if the method were called anew in this heap -/
theorem vx_rebase {T : State} (X : Stand p l e R s m args below meth c T locs cells slots) {R' : Room} (hf : R'.frames ≤ R.frames) (hl : R'.locals ≤ R.locals) (hc : cells + R'.cells ≤ R.cells) (hs : slots + R'.slots ≤ R.slots) :
    Stand p l e R' ((T.setVm s.vm).setFrames (.invoking m args :: below)) m args below meth c T [] 0 0 := by
  have htop : (T.setVm s.vm).topJava?.isSome := X.here.top
  have hF : ((T.setVm s.vm).setFrames (.invoking m args :: below)).frames = .invoking m args :: below := State.frames_setFrames _ (State.cur_lt_of_top htop)
  obtain ⟨g₀, hg0⟩ := Option.isSome_iff_exists.mp htop
  obtain ⟨r, hr⟩ := State.topJava?_eq_some.mp hg0
  have hl9 : e.platform.stackLimits (T.setVm s.vm).me = e.platform.stackLimits s.me := X.limits
  have hb9 : (T.setVm s.vm).me.stackBytes = s.me.stackBytes := X.bytes
  refine ⟨X.admits, X.cas, X.clock, hF, ?_, X.hears, X.method, X.code, X.here, X.tail, X.warmed, ?_, ?_, ?_⟩
  · have h := X.room
    have hU : ((T.setVm s.vm).setFrames (.invoking m args :: below)).localsInUse = s.localsInUse := by
      rw [State.localsInUse_invoking hF (meth := meth) (c := c) X.method X.code, State.localsInUse_invoking X.frames X.method X.code]
    simp only [State.hasRoom, Bool.and_eq_true, decide_eq_true_eq] at h ⊢
    obtain ⟨⟨⟨⟨h1, h2, h3, h4, h5, h6⟩, h7⟩, h8⟩, h9⟩ := h
    rw [X.frames, List.length_cons] at h2 h3
    have q1 := X.heapSize
    have q2 := X.used
    simp only [hF, hU, List.length_cons, State.stackLimits_setFrames, State.stackBytes_setFrames, hl9, hb9]
    refine ⟨⟨⟨⟨by omega, by omega, by omega, by omega, by omega, h6⟩, ?_⟩, ?_⟩, X.book⟩
    · show T.heap.size + R'.cells ≤ e.platform.maxCells
      omega
    · show T.slotsUsed + R'.slots ≤ e.platform.maxSlots
      omega
  · rw [State.stackLimits_setFrames]; rfl
  · rw [State.stackBytes_setFrames]; rfl
  · refine ⟨?_, Nat.le_refl _, Nat.le_refl _, ?_, ?_, fun a c9 h9 => ⟨c9, h9, rfl, rfl, fun _ _ => rfl⟩⟩
    · obtain ⟨t, ht, -⟩ := State.frames_cons hr
      show T.setVm s.vm = { ((T.setVm s.vm).setFrames (.invoking m args :: below)).setFrames (T.setVm s.vm).frames with heap := T.heap, slotsUsed := T.slotsUsed }
      rw [State.setFrames_setFrames, State.setFrames_self ht]
      rfl
    · show T.slotsUsed = T.slotsUsed + ((T.heap.toList.drop T.heap.size).map (·.slots.size)).sum
      rw [List.drop_eq_nil_of_le (Nat.le_of_eq Array.length_toList)]
      rfl
    · show ((T.heap.toList.drop T.heap.size).map (·.slots.size)).sum ≤ 0
      rw [List.drop_eq_nil_of_le (Nat.le_of_eq Array.length_toList)]
      exact Nat.le_refl _
/-- 'throw new E()': new; dup; invokespecial; athrow -/
theorem vx_throw0 {cc : ByteArray} {pc : Nat} (hexec : p.tables.exec = Jvm.exec) (hb : c.code = cc) (hl : l.stackTraces = false) {own cls : String} {names : List String} {ik ic mc ms : Nat} {A : Nat → Prop}
    (hown : s.vm.findClass own = some m.cls) (hcls : Bundle.fit cls = true) (hnames : ∀ n ∈ names, Bundle.fit n = true)
    (hk : (Cond.classLink own ik cls).before args s = true) (hini : (Cond.initialized cls).before args s = true) (hat : ∀ w ∈ vx_at0 own ic cls names, w.before args s = true)
    (hgood : ∀ w ∈ Cond.classLink own ik cls :: Cond.initialized cls :: vx_at0 own ic cls names, vx_ot w = true)
    (hU : vx_Zq Bundle.tN "UNASSIGNED_STACK" Bundle.steD A s s.heap) (hN : vx_Zq Bundle.tN "SUPPRESSED_SENTINEL" Bundle.listD A s s.heap) (hS : va_S A s.heap H locs) (hsize : ls.size = c.maxLocals)
    (d0 : decode cc pc = .ok (.new ik, 3)) (d3 : decode cc (pc + 3) = .ok (.dup, 1)) (d4 : decode cc (pc + 4) = .ok (.invokespecial ic, 3)) (d7 : decode cc (pc + 7) = .ok (.athrow, 1))
    (hout : ∀ x ∈ c.exceptionTable.toList, covers x (pc + 7) = false)
    (hRframes : names.length + 3 < R.frames) (hRlocals : (rest.map fun v => v.category).sum + (13 * (names.length + 1) + 42) ≤ R.locals) (hRcells : cells + 1 ≤ R.cells) (hRslots : slots + 6 ≤ R.slots) (hlocks : meth.locks = false)
    (hx : ∀ t : State, s.vm.Alike t.vm → H.size ≤ t.heap.size → (∀ q : Nat, q < H.size → t.heap[q]? = H[q]?) → XC cls s t)
    (hf : ∀ z ∈ locs, free z.base) (hc : cells + 1 ≤ mc) (hs : slots + 6 ≤ ms) :
    W p l e R s m args below meth c H locs cells slots (vx_MQ below Qc XC args s mc ms free) (F0 m pc ls rest) := by
  intro T hT X
  have htr : e.platform.stackTraces = false := (show e.platform.stackTraces = l.stackTraces by rw [X.admits.platform]).trans hl
  have Y := vx_rebase X (R' := { frames := R.frames, locals := R.locals, cells := 1, slots := 6 }) (Nat.le_refl _) (Nat.le_refl _) hRcells hRslots
  obtain ⟨s', hA⟩ : ∃ z, z = (T.setVm s.vm).setFrames (.invoking m args :: below) := ⟨_, rfl⟩
  rw [← hA] at Y
  have hvm : s'.vm = s.vm := by rw [hA]; rfl
  have hhp : s'.heap = H := by rw [hA]; exact hT
  have hW0 : s.WarmedH s'.vm := by rw [hvm]; exact State.WarmedH.refl s
  have hat' : ∀ w ∈ vx_at0 own ic cls names, w.before args s' = true := fun w hw => vx_ot_at hW0 hvm.symm (hgood w (List.mem_cons_of_mem _ (List.mem_cons_of_mem _ hw))) (hat w hw)
  have hk' : (Cond.classLink own ik cls).before args s' = true := vx_ot_at hW0 hvm.symm (hgood _ List.mem_cons_self) hk
  have hini' : (Cond.initialized cls).before args s' = true := vx_ot_at hW0 hvm.symm (hgood _ (List.mem_cons_of_mem _ List.mem_cons_self)) hini
  have hU' : vx_Zq Bundle.tN "UNASSIGNED_STACK" Bundle.steD A s' s'.heap := by rw [hhp]; exact vx_Zq.moved hW0.alike (hU.kept hS.2.1)
  have hN' : vx_Zq Bundle.tN "SUPPRESSED_SENTINEL" Bundle.listD A s' s'.heap := by rw [hhp]; exact vx_Zq.moved hW0.alike (hN.kept hS.2.1)
  have h : ∀ w ∈ Bundle.ownAtoms0 own ic cls names, w.before args s' = true := vx_own hat' (vx_isRefq hU'.1) (vx_isRefq hN'.1) hU'.2.word hN'.2.word
  have hown' : s'.vm.findClass own = some m.cls := by rw [hvm]; exact hown
  have hins : (Cond.instantiable cls 6).before args s' = true := h _ (by simp [Bundle.ownAtoms0])
  obtain ⟨vm₁, cX, kX, hfX, hkX, -, -, X₁, st1⟩ := Y.newCold hexec (own := own) (C := cls) (index := ik) (n := 6) hown' hk' hins hini'
    (g := F0 m pc ls rest) rfl (by rw [hb]; exact d0) (Nat.le_refl _) (Nat.le_refl _)
  generalize hT1 : (T.setVm vm₁).pushCell { cls := cX, slots := kX.instanceTypes.map defaultValue, vm := .none } = T1 at X₁ st1
  have hcat : (Value.ref T.heap.size).category = 1 := rfl
  have hcellA : T1.heap[T.heap.size]? = some (freshCell cX kX) := by rw [← hT1]; exact State.heap_pushCell_size _ _
  have d3' : decode c.code (pc + 3) = .ok (.dup, 1) := by rw [hb]; exact d3
  obtain ⟨U, hsteps, hrun, hend, hW, hsame, ce, hce, hO⟩ := X₁.ctorThrow0 hexec htr (own := own) (cls := cls) (names := names) (ic := ic) hown' hcls hnames h (fun x hx => nomatch hx) hfX hkX hcellA (by rw [hhp, hT]; exact Nat.le_refl _)
    (g := { method := m, pc := pc + 4, locals := ls, stack := .ref T.heap.size :: .ref T.heap.size :: rest, locked := none }) rfl hsize rfl rfl (rest := rest) rfl
    (by rw [hb]; exact d4) (by rw [hb]; exact d7) hout hRframes (by simp only [List.map_cons, List.sum_cons, hcat]; omega) hlocks
  obtain ⟨f1, f2⟩ := vx_frame hsame
  rw [hhp] at f1 f2
  have hWs : s.WarmedH U.vm := State.WarmedH.trans hW0 hW
  have hcl : s.vm.findClass cls = some ce.cls := by
    have h9 := hO.cls
    rw [hvm] at h9
    exact h9
  have hall : s.sameButNew ({ U with vm := s.vm } : State) locs mc ms := by
    subst hA
    obtain ⟨e1, e2⟩ := hsame
    rw [State.setFrames_setFrames] at e1
    have h2 : (T.setVm s.vm).sameButNew ({ U with vm := s.vm } : State) [] (0 + 1) (0 + 6) := ⟨e1, e2⟩
    have h3 := X.same.trans h2
    rw [List.append_nil] at h3
    exact h3.mono hc hs
  refine ⟨U, ?_, .threw T.heap.size, hrun, hend, Or.inr ⟨T.heap.size, rfl, cls, ce, locs, hx U hWs.alike f1 (fun q hq => f2 q hq (fun z hz => nomatch hz)), hce, hO.vm, hcl, hWs, hall, hf⟩⟩
  refine st1 _ ?_
  show Steps p.tables e below (T1.setTop { method := m, pc := pc + 3, locals := ls, stack := .ref T.heap.size :: rest, locked := none }) _
  jvm_step X₁.here [X₁.here.top, hexec, d3', Value.category]
  exact hsteps
/-- 'throw new E("text")': new; dup; ldc; invokespecial; athrow -/
theorem vx_throwS {cc : ByteArray} {pc : Nat} (hexec : p.tables.exec = Jvm.exec) (hb : c.code = cc) (hl : l.stackTraces = false) {own cls text : String} {names : List String} {ik is ic mc ms sa : Nat} {A : Nat → Prop}
    (hown : s.vm.findClass own = some m.cls) (hcls : Bundle.fit cls = true) (hnames : ∀ n ∈ names, Bundle.fit n = true)
    (hk : (Cond.classLink own ik cls).before args s = true) (hini : (Cond.initialized cls).before args s = true) (hstr : vk_R own is text sa s) (hat : ∀ w ∈ vx_atS own ic cls names, w.before args s = true)
    (hgood : ∀ w ∈ Cond.classLink own ik cls :: Cond.initialized cls :: vx_atS own ic cls names, vx_ot w = true)
    (hU : vx_Zq Bundle.tN "UNASSIGNED_STACK" Bundle.steD A s s.heap) (hN : vx_Zq Bundle.tN "SUPPRESSED_SENTINEL" Bundle.listD A s s.heap) (hS : va_S A s.heap H locs) (hsize : ls.size = c.maxLocals)
    (d0 : decode cc pc = .ok (.new ik, 3)) (d3 : decode cc (pc + 3) = .ok (.dup, 1)) (d4 : decode cc (pc + 4) = .ok (.ldc is, 2)) (d6 : decode cc (pc + 6) = .ok (.invokespecial ic, 3)) (d9 : decode cc (pc + 9) = .ok (.athrow, 1))
    (hout : ∀ x ∈ c.exceptionTable.toList, covers x (pc + 9) = false)
    (hRframes : names.length + 3 < R.frames) (hRlocals : (rest.map fun v => v.category).sum + (13 * (names.length + 1) + 43) ≤ R.locals) (hRcells : cells + 1 ≤ R.cells) (hRslots : slots + 6 ≤ R.slots) (hlocks : meth.locks = false)
    (hx : ∀ t : State, s.vm.Alike t.vm → H.size ≤ t.heap.size → (∀ q : Nat, q < H.size → t.heap[q]? = H[q]?) → XC cls s t)
    (hf : ∀ z ∈ locs, free z.base) (hc : cells + 1 ≤ mc) (hs : slots + 6 ≤ ms) :
    W p l e R s m args below meth c H locs cells slots (vx_MQ below Qc XC args s mc ms free) (F0 m pc ls rest) := by
  intro T hT X
  have htr : e.platform.stackTraces = false := (show e.platform.stackTraces = l.stackTraces by rw [X.admits.platform]).trans hl
  have Y := vx_rebase X (R' := { frames := R.frames, locals := R.locals, cells := 1, slots := 6 }) (Nat.le_refl _) (Nat.le_refl _) hRcells hRslots
  obtain ⟨s', hA⟩ : ∃ z, z = (T.setVm s.vm).setFrames (.invoking m args :: below) := ⟨_, rfl⟩
  rw [← hA] at Y
  have hvm : s'.vm = s.vm := by rw [hA]; rfl
  have hhp : s'.heap = H := by rw [hA]; exact hT
  have hW0 : s.WarmedH s'.vm := by rw [hvm]; exact State.WarmedH.refl s
  have hat' : ∀ w ∈ vx_atS own ic cls names, w.before args s' = true := fun w hw => vx_ot_at hW0 hvm.symm (hgood w (List.mem_cons_of_mem _ (List.mem_cons_of_mem _ hw))) (hat w hw)
  have hk' : (Cond.classLink own ik cls).before args s' = true := vx_ot_at hW0 hvm.symm (hgood _ List.mem_cons_self) hk
  have hini' : (Cond.initialized cls).before args s' = true := vx_ot_at hW0 hvm.symm (hgood _ (List.mem_cons_of_mem _ List.mem_cons_self)) hini
  have hU' : vx_Zq Bundle.tN "UNASSIGNED_STACK" Bundle.steD A s' s'.heap := by rw [hhp]; exact vx_Zq.moved hW0.alike (hU.kept hS.2.1)
  have hN' : vx_Zq Bundle.tN "SUPPRESSED_SENTINEL" Bundle.listD A s' s'.heap := by rw [hhp]; exact vx_Zq.moved hW0.alike (hN.kept hS.2.1)
  have h : ∀ w ∈ Bundle.ownAtoms own ic cls names, w.before args s' = true := vx_own hat' (vx_isRefq hU'.1) (vx_isRefq hN'.1) hU'.2.word hN'.2.word
  have hown' : s'.vm.findClass own = some m.cls := by rw [hvm]; exact hown
  have hins : (Cond.instantiable cls 6).before args s' = true := h _ (by simp [Bundle.ownAtoms])
  obtain ⟨vm₁, cX, kX, hfX, hkX, -, -, X₁, st1⟩ := Y.newCold hexec (own := own) (C := cls) (index := ik) (n := 6) hown' hk' hins hini'
    (g := F0 m pc ls rest) rfl (by rw [hb]; exact d0) (Nat.le_refl _) (Nat.le_refl _)
  generalize hT1 : (T.setVm vm₁).pushCell { cls := cX, slots := kX.instanceTypes.map defaultValue, vm := .none } = T1 at X₁ st1
  have hcat : (Value.ref T.heap.size).category = 1 := rfl
  have hcellA : T1.heap[T.heap.size]? = some (freshCell cX kX) := by rw [← hT1]; exact State.heap_pushCell_size _ _
  have d3' : decode c.code (pc + 3) = .ok (.dup, 1) := by rw [hb]; exact d3
  have d4' : decode c.code (pc + 4) = .ok (.ldc is, 2) := by rw [hb]; exact d4
  have hstr' : vk_R own is text sa s' := vk_R.warm hW0 hstr
  obtain ⟨U, hsteps, hrun, hend, hW, hsame, ce, hce, hO⟩ := X₁.ctorThrowS hexec htr (own := own) (cls := cls) (names := names) (ic := ic) hown' hcls hnames h (fun x hx => nomatch hx) hfX hkX hcellA (by rw [hhp, hT]; exact Nat.le_refl _) (msg := .ref sa) rfl
    (g := { method := m, pc := pc + 6, locals := ls, stack := .ref sa :: .ref T.heap.size :: .ref T.heap.size :: rest, locked := none }) rfl hsize rfl rfl (rest := rest) rfl
    (by rw [hb]; exact d6) (by rw [hb]; exact d9) hout hRframes (by simp only [List.map_cons, List.sum_cons, hcat]; omega) hlocks
  obtain ⟨f1, f2⟩ := vx_frame hsame
  rw [hhp] at f1 f2
  have hWs : s.WarmedH U.vm := State.WarmedH.trans hW0 hW
  have hcl : s.vm.findClass cls = some ce.cls := by
    have h9 := hO.cls
    rw [hvm] at h9
    exact h9
  have hall : s.sameButNew ({ U with vm := s.vm } : State) locs mc ms := by
    subst hA
    obtain ⟨e1, e2⟩ := hsame
    rw [State.setFrames_setFrames] at e1
    have h2 : (T.setVm s.vm).sameButNew ({ U with vm := s.vm } : State) [] (0 + 1) (0 + 6) := ⟨e1, e2⟩
    have h3 := X.same.trans h2
    rw [List.append_nil] at h3
    exact h3.mono hc hs
  refine ⟨U, ?_, .threw T.heap.size, hrun, hend, Or.inr ⟨T.heap.size, rfl, cls, ce, locs, hx U hWs.alike f1 (fun q hq => f2 q hq (fun z hz => nomatch hz)), hce, hO.vm, hcl, hWs, hall, hf⟩⟩
  refine st1 _ ?_
  show Steps p.tables e below (T1.setTop { method := m, pc := pc + 3, locals := ls, stack := .ref T.heap.size :: rest, locked := none }) _
  jvm_step X₁.here [X₁.here.top, hexec, d3', Value.category]
  exact X₁.ldcString hexec (own := own) (text := text) (index := is) (a := sa) hown' hstr'.1 hstr'.2
    (g := { method := m, pc := pc + 4, locals := ls, stack := .ref T.heap.size :: .ref T.heap.size :: rest, locked := none }) rfl d4' _ hsteps
/-- 'throw new E("text")', the text by a wide index -/
theorem vx_throwSW {cc : ByteArray} {pc : Nat} (hexec : p.tables.exec = Jvm.exec) (hb : c.code = cc) (hl : l.stackTraces = false) {own cls text : String} {names : List String} {ik is ic mc ms sa : Nat} {A : Nat → Prop}
    (hown : s.vm.findClass own = some m.cls) (hcls : Bundle.fit cls = true) (hnames : ∀ n ∈ names, Bundle.fit n = true)
    (hk : (Cond.classLink own ik cls).before args s = true) (hini : (Cond.initialized cls).before args s = true) (hstr : vk_R own is text sa s) (hat : ∀ w ∈ vx_atS own ic cls names, w.before args s = true)
    (hgood : ∀ w ∈ Cond.classLink own ik cls :: Cond.initialized cls :: vx_atS own ic cls names, vx_ot w = true)
    (hU : vx_Zq Bundle.tN "UNASSIGNED_STACK" Bundle.steD A s s.heap) (hN : vx_Zq Bundle.tN "SUPPRESSED_SENTINEL" Bundle.listD A s s.heap) (hS : va_S A s.heap H locs) (hsize : ls.size = c.maxLocals)
    (d0 : decode cc pc = .ok (.new ik, 3)) (d3 : decode cc (pc + 3) = .ok (.dup, 1)) (d4 : decode cc (pc + 4) = .ok (.ldc_w is, 3)) (d7 : decode cc (pc + 7) = .ok (.invokespecial ic, 3)) (d10 : decode cc (pc + 10) = .ok (.athrow, 1))
    (hout : ∀ x ∈ c.exceptionTable.toList, covers x (pc + 10) = false)
    (hRframes : names.length + 3 < R.frames) (hRlocals : (rest.map fun v => v.category).sum + (13 * (names.length + 1) + 43) ≤ R.locals) (hRcells : cells + 1 ≤ R.cells) (hRslots : slots + 6 ≤ R.slots) (hlocks : meth.locks = false)
    (hx : ∀ t : State, s.vm.Alike t.vm → H.size ≤ t.heap.size → (∀ q : Nat, q < H.size → t.heap[q]? = H[q]?) → XC cls s t)
    (hf : ∀ z ∈ locs, free z.base) (hc : cells + 1 ≤ mc) (hs : slots + 6 ≤ ms) :
    W p l e R s m args below meth c H locs cells slots (vx_MQ below Qc XC args s mc ms free) (F0 m pc ls rest) := by
  intro T hT X
  have htr : e.platform.stackTraces = false := (show e.platform.stackTraces = l.stackTraces by rw [X.admits.platform]).trans hl
  have Y := vx_rebase X (R' := { frames := R.frames, locals := R.locals, cells := 1, slots := 6 }) (Nat.le_refl _) (Nat.le_refl _) hRcells hRslots
  obtain ⟨s', hA⟩ : ∃ z, z = (T.setVm s.vm).setFrames (.invoking m args :: below) := ⟨_, rfl⟩
  rw [← hA] at Y
  have hvm : s'.vm = s.vm := by rw [hA]; rfl
  have hhp : s'.heap = H := by rw [hA]; exact hT
  have hW0 : s.WarmedH s'.vm := by rw [hvm]; exact State.WarmedH.refl s
  have hat' : ∀ w ∈ vx_atS own ic cls names, w.before args s' = true := fun w hw => vx_ot_at hW0 hvm.symm (hgood w (List.mem_cons_of_mem _ (List.mem_cons_of_mem _ hw))) (hat w hw)
  have hk' : (Cond.classLink own ik cls).before args s' = true := vx_ot_at hW0 hvm.symm (hgood _ List.mem_cons_self) hk
  have hini' : (Cond.initialized cls).before args s' = true := vx_ot_at hW0 hvm.symm (hgood _ (List.mem_cons_of_mem _ List.mem_cons_self)) hini
  have hU' : vx_Zq Bundle.tN "UNASSIGNED_STACK" Bundle.steD A s' s'.heap := by rw [hhp]; exact vx_Zq.moved hW0.alike (hU.kept hS.2.1)
  have hN' : vx_Zq Bundle.tN "SUPPRESSED_SENTINEL" Bundle.listD A s' s'.heap := by rw [hhp]; exact vx_Zq.moved hW0.alike (hN.kept hS.2.1)
  have h : ∀ w ∈ Bundle.ownAtoms own ic cls names, w.before args s' = true := vx_own hat' (vx_isRefq hU'.1) (vx_isRefq hN'.1) hU'.2.word hN'.2.word
  have hown' : s'.vm.findClass own = some m.cls := by rw [hvm]; exact hown
  have hins : (Cond.instantiable cls 6).before args s' = true := h _ (by simp [Bundle.ownAtoms])
  obtain ⟨vm₁, cX, kX, hfX, hkX, -, -, X₁, st1⟩ := Y.newCold hexec (own := own) (C := cls) (index := ik) (n := 6) hown' hk' hins hini'
    (g := F0 m pc ls rest) rfl (by rw [hb]; exact d0) (Nat.le_refl _) (Nat.le_refl _)
  generalize hT1 : (T.setVm vm₁).pushCell { cls := cX, slots := kX.instanceTypes.map defaultValue, vm := .none } = T1 at X₁ st1
  have hcat : (Value.ref T.heap.size).category = 1 := rfl
  have hcellA : T1.heap[T.heap.size]? = some (freshCell cX kX) := by rw [← hT1]; exact State.heap_pushCell_size _ _
  have d3' : decode c.code (pc + 3) = .ok (.dup, 1) := by rw [hb]; exact d3
  have d4' : decode c.code (pc + 4) = .ok (.ldc_w is, 3) := by rw [hb]; exact d4
  have hstr' : vk_R own is text sa s' := vk_R.warm hW0 hstr
  obtain ⟨U, hsteps, hrun, hend, hW, hsame, ce, hce, hO⟩ := X₁.ctorThrowS hexec htr (own := own) (cls := cls) (names := names) (ic := ic) hown' hcls hnames h (fun x hx => nomatch hx) hfX hkX hcellA (by rw [hhp, hT]; exact Nat.le_refl _) (msg := .ref sa) rfl
    (g := { method := m, pc := pc + 7, locals := ls, stack := .ref sa :: .ref T.heap.size :: .ref T.heap.size :: rest, locked := none }) rfl hsize rfl rfl (rest := rest) rfl
    (by rw [hb]; exact d7) (by rw [hb]; exact d10) hout hRframes (by simp only [List.map_cons, List.sum_cons, hcat]; omega) hlocks
  obtain ⟨f1, f2⟩ := vx_frame hsame
  rw [hhp] at f1 f2
  have hWs : s.WarmedH U.vm := State.WarmedH.trans hW0 hW
  have hcl : s.vm.findClass cls = some ce.cls := by
    have h9 := hO.cls
    rw [hvm] at h9
    exact h9
  have hall : s.sameButNew ({ U with vm := s.vm } : State) locs mc ms := by
    subst hA
    obtain ⟨e1, e2⟩ := hsame
    rw [State.setFrames_setFrames] at e1
    have h2 : (T.setVm s.vm).sameButNew ({ U with vm := s.vm } : State) [] (0 + 1) (0 + 6) := ⟨e1, e2⟩
    have h3 := X.same.trans h2
    rw [List.append_nil] at h3
    exact h3.mono hc hs
  refine ⟨U, ?_, .threw T.heap.size, hrun, hend, Or.inr ⟨T.heap.size, rfl, cls, ce, locs, hx U hWs.alike f1 (fun q hq => f2 q hq (fun z hz => nomatch hz)), hce, hO.vm, hcl, hWs, hall, hf⟩⟩
  refine st1 _ ?_
  show Steps p.tables e below (T1.setTop { method := m, pc := pc + 3, locals := ls, stack := .ref T.heap.size :: rest, locked := none }) _
  jvm_step X₁.here [X₁.here.top, hexec, d3', Value.category]
  exact X₁.ldcStringW hexec (own := own) (text := text) (index := is) (a := sa) hown' hstr'.1 hstr'.2
    (g := { method := m, pc := pc + 4, locals := ls, stack := .ref T.heap.size :: .ref T.heap.size :: rest, locked := none }) rfl d4' _ hsteps
end Ends
section Bodies
variable {l : Launch}
theorem vx_ofW {y : MethodName} {ws ws' : List Cond} {rm : Room} {Pc : Array Value → State → Prop} {Qc : Array Value → State → Outcome → State → Prop} {XC : String → State → State → Prop} {mc ms : Nat} {free : Addr → Prop} {cc : ByteArray} {maxL : Nat} {ret : Option FieldType}
    (hy : plainName y.cls = true) (hw : ws = Cond.code y cc maxL ret :: ws')
    (body : ∀ p e s m args below meth c s₁, BodyLoose p l y (headSpec ws rm) cc maxL ret e s m args below meth c s₁ → c.maxLocals = maxL → (∀ x ∈ c.exceptionTable.toList, False) → Pc args s →
      W p l e (headSpec ws rm).room s m args below meth c s.heap [] 0 0 (vx_MQ below Qc XC args s mc ms free) (entryFrame m args maxL)) : vx_Met l y ws rm Pc Qc XC mc ms free := by
  refine MetFree.of_bodyS (code := cc) (maxLocals := maxL) (ret := ret) hy ?_ ?_
  · intro args s m h hn
    obtain ⟨meth, c, h1, h2, h3, h4, h5, h6, -, -⟩ := Cond.code_spec hn (atoms_spec (ws := ws) h _ (by rw [hw]; exact List.mem_cons_self))
    exact ⟨meth, c, h1, h2, h3, h4, h5, h6⟩
  · intro p e s m args below meth c s₁ B hml hP _
    have hh0 : s₁.heap = s.heap := by rw [B.state]; rfl
    have ht : ∀ x ∈ c.exceptionTable.toList, False := by
      obtain ⟨meth9, c9, h1, h2, -, -, -, -, h7, -⟩ := Cond.code_spec B.named (atoms_spec (ws := ws) B.pre _ (by rw [hw]; exact List.mem_cons_self))
      cases Option.some.inj (h1.symm.trans B.method)
      cases Option.some.inj (h2.symm.trans (Stand.of_body B).code)
      intro x hx
      rw [Array.isEmpty_iff.mp h7] at hx
      cases hx
    obtain ⟨t, a1, o, b1, b2, b3⟩ := body p e s m args below meth c s₁ B hml ht hP s₁ hh0 (Stand.of_body B)
    exact ⟨t, o, a1, b1, b2, b3⟩
/-- the table of a body with handlers -/
theorem vx_table {p : Program} {x y : MethodName} {S : Spec} {cc bytes : ByteArray} {maxL maxL' : Nat} {ret ret' : Option FieldType} {e : Env} {s s₁ : State} {m : MethodId} {args : Array Value} {below : List Frame} {meth : Method} {c : Code} {hh : List (Nat × Nat × Nat × Nat)}
    (B : BodyLoose p l y S cc maxL ret e s m args below meth c s₁) (h : (Cond.codeWith y bytes maxL' ret' hh).before args s = true) : c.exceptionTable.toList = tableOf hh := by
  obtain ⟨m9, meth9, c9, hn9, h1, h2, -, -, h6, -⟩ := Cond.codeWith_spec h
  cases Option.some.inj (hn9.symm.trans B.named)
  cases Option.some.inj (h1.symm.trans B.method)
  cases Option.some.inj (h2.symm.trans (Stand.of_body B).code)
  rw [← h6, table_eq]
end Bodies
end VXA
/-! ===== END ===== -/
/-! ===== BEGIN a static call of a method with an exception table ===== -/
section VXS
variable {p : Program} {l : Launch} {e : Env} {R : Room} {s : State} {m : MethodId} {args : Array Value} {below : List Frame} {meth : Method} {c : Code} {T : State} {H : Heap} {locs : List Loc} {cells slots : Nat}
abbrev vx_CSW (R : Room) (s : State) (args : Array Value) (own : String) (index : Nat) (y : MethodName) (bytes : ByteArray) (maxL : Nat) (ret : Option FieldType) (hh : List (Nat × Nat × Nat × Nat)) (ws : List Cond) (rm : Room) (mc ms n : Nat) : Prop :=
  (rm.cells = mc ∧ rm.slots = ms ∧ rm.frames + 1 ≤ R.frames ∧ 8 + (maxL + 11) + rm.locals ≤ R.locals ∧ (∀ w ∈ ws, ∀ (a' : Array Value) (U : State), s.WarmedH U.vm → w.before a' U = true) ∧ Cond.codeWith y bytes maxL ret hh ∈ ws) ∧
  (Cond.codeWith y bytes maxL ret hh).before args s = true ∧ (Cond.initialized y.cls).before args s = true ∧ (y.cls ≠ "java/lang/invoke/MethodHandle" ∧ y.cls ≠ "java/lang/invoke/VarHandle") ∧
  (∀ sig, parseMethodDescriptor y.desc = some sig → n = sig.parameters.length) ∧ (Cond.methodLink own index y).before args s = true ∧ (Cond.static y).before args s = true
theorem vx_cwSW {own : String} {index maxL mc ms : Nat} {y : MethodName} {bytes : ByteArray} {ret : Option FieldType} {hh : List (Nat × Nat × Nat × Nat)} {Ts ws ws' : List Cond} {rm : Room} (n : Nat) (ht : ∀ w ∈ Ts, w.before args s = true) (hT : GoodIn Ts (va_wsS own index y ws)) (hw : ws = Cond.codeWith y bytes maxL ret hh :: ws') (hrc : rm.cells = mc) (hrs : rm.slots = ms)
    (hd : y.cls ≠ "java/lang/invoke/MethodHandle" ∧ y.cls ≠ "java/lang/invoke/VarHandle" ∧ (parseMethodDescriptor y.desc).map (fun d => d.parameters.length) = some n) (hR : rm.frames + 1 ≤ R.frames ∧ 8 + (maxL + 11) + rm.locals ≤ R.locals) :
    vx_CSW R s args own index y bytes maxL ret hh ws rm mc ms n := by
  have ok : ∀ w ∈ va_wsS own index y ws, w.before args s = true := fun w h => ht w (hT w h).1
  have hG : GoodIn Ts ws := fun w h => hT w (by unfold va_wsS; exact List.mem_append_right _ h)
  have hc : Cond.codeWith y bytes maxL ret hh ∈ ws := by rw [hw]; exact List.mem_cons_self
  refine ⟨⟨hrc, hrs, hR.1, hR.2, pay_in ht hG, hc⟩, ht _ (hG _ hc).1, ok _ (by simp [va_wsS]), ⟨hd.1, hd.2.1⟩, fun sig h => ?_, ok _ (by simp [va_wsS]), ok _ (by simp [va_wsS])⟩
  have h2 := hd.2.2
  rw [h] at h2
  exact (Option.some.inj h2).symm
theorem vx_callSW (X : Stand p l e R s m args below meth c T locs cells slots) (hexec : p.tables.exec = Jvm.exec) {own : String} {index : Nat} {y : MethodName} {bytes : ByteArray} {maxL : Nat} {ret : Option FieldType} {hh : List (Nat × Nat × Nat × Nat)}
    (hown : s.vm.findClass own = some m.cls) (hlink : (Cond.methodLink own index y).before args s = true) (hstat : (Cond.static y).before args s = true) (hinit : (Cond.initialized y.cls).before args s = true)
    (hcode : (Cond.codeWith y bytes maxL ret hh).before args s = true) (hy : y.cls ≠ "java/lang/invoke/MethodHandle" ∧ y.cls ≠ "java/lang/invoke/VarHandle")
    {W9 : Nat} {Pre : Pt → Array Value → Prop} {Post : Pt → Array Value → Option Value → Pt → Prop} (hK : Back l R p e below s args y 3 W9 Pre Post)
    {g : JFrame} (hg : g.method = m) (hsize : g.locals.size = c.maxLocals) {argsL rest : List Value} (hlen : ∀ sig, parseMethodDescriptor y.desc = some sig → argsL.length = sig.parameters.length)
    (hstack : g.stack = argsL.reverse ++ rest) (hW : 2 * g.monitorRoom + (rest.map fun v => v.category).sum ≤ W9) (hdg : decode c.code g.pc = .ok (.invokestatic index, 3))
    (hpre : ∀ vm₁, s.WarmedH vm₁ → Pre ⟨T.setVm vm₁, locs, cells, slots⟩ argsL.toArray) :
    ∃ (v : Option Value) (vm₁ : Vm) (B : Pt), s.WarmedH vm₁ ∧ Stand p l e R s m args below meth c B.U B.locs B.cells B.slots ∧ Post ⟨T.setVm vm₁, locs, cells, slots⟩ argsL.toArray v B ∧
      ∀ target, Steps p.tables e below (B.U.setTop { g with pc := g.pc + 3, stack := v.toList ++ rest }) target → Steps p.tables e below (T.setTop g) target := by
  obtain ⟨mk, methM, cM, hnamed, hmethM, -, -, -, -, -, -, hsigM⟩ := Cond.codeWith_spec hcode
  have hstatic : methM.isStatic = true := Cond.static_spec hnamed hmethM hstat
  obtain ⟨kP, hkP, -⟩ := className_of_methodNamed hnamed
  have hinitP : kP.init = .initialized := Cond.initialized_spec (findClass_of_methodNamed hnamed) hkP hinit
  obtain ⟨vm₁, X₁, hstep₁⟩ := X.invokestatic hexec hown hlink hnamed hmethM hstatic hkP hinitP hy (g := g) hg (argsL := argsL) (rest := rest) (hlen _ hsigM) hstack hdg
  obtain ⟨v, B, X', hpost, hsteps⟩ := hK m meth c ⟨T.setVm vm₁, locs, cells, slots⟩ { g with stack := rest } (.invokestatic index) mk argsL.toArray X₁ hg hsize hdg hW (X₁.named hnamed) (hpre vm₁ X₁.warmed)
  exact ⟨v, vm₁, B, X₁.warmed, X', hpost, fun target h => hstep₁ _ fun acts => by rw [doInvoke_state]; exact hsteps.trans h⟩
theorem vx_runSW {y : MethodName} {bytes cc : ByteArray} {maxL nL mc ms n index : Nat} {ret : Option FieldType} {hh : List (Nat × Nat × Nat × Nat)} {ws : List Cond} {rm : Room} {Pc : Array Value → State → Prop} {Qc : Array Value → State → Outcome → State → Prop} {free : Addr → Prop} {Ts : List Cond} {own : String} {As rest : List Value} {g : JFrame}
    (S : CallFix p m c cc nL s args Ts own) (hM : Met l y ws rm Pc Qc mc ms free) (cw : vx_CSW R s args own index y bytes maxL ret hh ws rm mc ms n) (hp : PreS s H Pc As)
    (hg : g.method = m) (hn : As.length = n) (hsize : g.locals.size = nL) (hstack : g.stack = As.reverse ++ rest) (hW : 2 * g.monitorRoom + (rest.map fun v => v.category).sum ≤ 8) (hdg : decode cc g.pc = .ok (.invokestatic index, 3)) (hf : cells + mc ≤ R.cells ∧ slots + ms ≤ R.slots) :
    va_Run p l e R s m args below meth c H locs cells slots mc ms g rest (Qc As.toArray) (free) := by
  obtain ⟨⟨hrc, hrs, hfr, hlo, hws, hcw⟩, hcode, hini, hy, hlen, hl, hstt⟩ := cw
  have hK : Back l R p e below s args y 3 8 (PreOf R mc ms Pc) (PostOf Qc mc ms free) := va_backW (hh := hh) (bytes := bytes) (maxL := maxL) (ret := ret) hM hp.1 hrc hrs hfr hlo hws hcw (fun a' U hW => word_at hW (Or.inl (by first | rfl | simp [Cond.onTables, Cond.keeps, Cond.steady])) hini)
  obtain ⟨hx, hb, hml, ho, -⟩ := S
  intro T hT X
  obtain ⟨v, vm₁, ⟨U', l2, c2, s2⟩, hW₁, X', ⟨g', mk, t, L, e1, e2, hq, h1, hL, h2, h3⟩, st⟩ := vx_callSW X hx (hh := hh) (bytes := bytes) (maxL := maxL) (ret := ret) ho hl hstt hini hcode hy hK hg (hsize.trans hml.symm) (argsL := As) (rest := rest) (fun sig h => hn.trans (hlen sig h)) hstack hW (by rw [hb]; exact hdg)
    (fun vm₁ hW₁ => ⟨hf.1, hf.2, hp.2 (T.setVm vm₁) hT hW₁⟩)
  dsimp only [Pt.U, Pt.locs, Pt.cells, Pt.slots] at X' e1 e2 h1 h2 h3 st
  subst h1; subst h2; subst h3
  exact ⟨v, (T.setVm vm₁).calling g' mk As.toArray, t, U', L, hT, X', hL, e1, e2, hq, st⟩
/-- a thing of a world lies in the heap -/
theorem vx_lt {D : va_G} {cl : List vw_C} {ws : va_W} {H1 : Heap} (h : va_P D cl ws H1) {k : Nat} {q : Nat × va_E} (hk : ws[k]? = some q) : q.1 < H1.size := (h k q hk).lt
end VXS
/-! ===== END ===== -/
/-! ===== BEGIN methods with a table of their own: called by a name, returning or throwing ===== -/
section VXH
/-! vx_backW, vx_callVX, vx_callSX, vx_callVW, vx_runVW, vx_runVX, vx_runSX, vx_ofWH follow the same proofs as their sisters above (Free/Laws.lean, Shelf42/LK1.lean); vx_outP calls Shelf42/NT130.lean (outThrough). -/
section
variable {l : Launch} {R : Room} {p : Program} {e : Env} {below : List Frame} {s : State} {sargs : Array Value} {y : MethodName} {len W9 : Nat}
theorem vx_backW {ws : List Cond} {rm : Room} {Pc : Array Value → State → Prop} {Qc : Array Value → State → Outcome → State → Prop} {XC : String → State → State → Prop} {mc ms : Nat} {free : Addr → Prop} {bytes : ByteArray} {maxL : Nat} {ret : Option FieldType} {hh : List (Nat × Nat × Nat × Nat)}
    (hM : vx_Met l y ws rm Pc Qc XC mc ms free) (hblind : FrameBlind Pc) (hrc : rm.cells = mc) (hrs : rm.slots = ms)
    (hframes : rm.frames + 1 ≤ R.frames) (hlocals : W9 + (maxL + 11) + rm.locals ≤ R.locals)
    (hws : ∀ w ∈ ws, ∀ a' U, s.WarmedH U.vm → w.before a' U = true) (hcode : Cond.codeWith y bytes maxL ret hh ∈ ws) (hinit : ∀ a' U, s.WarmedH U.vm → (Cond.initialized y.cls).before a' U = true) :
    vx_Back l R p e below s sargs y len W9 (PreOf R mc ms Pc) (PostOf Qc mc ms free) (vx_Post XC mc ms free) := by
  intro m meth c A g ig mk a X hg hsize hdg hW hn hp
  have h1 : (headSpec ws rm).pre.before a A.U = true := atoms_intro fun w hw => hws w hw _ _ X.warmed
  have h2 : (Cond.codeWith y bytes maxL ret hh).before a A.U = true := hws _ hcode _ _ X.warmed
  have h3 : (Cond.initialized y.cls).before a A.U = true := hinit _ _ X.warmed
  have h4 : A.cells + (headSpec ws rm).room.cells ≤ R.cells := by rw [show (headSpec ws rm).room.cells = mc from hrc]; exact hp.1
  have h5 : A.slots + (headSpec ws rm).room.slots ≤ R.slots := by rw [show (headSpec ws rm).room.slots = ms from hrs]; exact hp.2.1
  have hPc : Pc a (A.U.calling g mk a) := hblind _ _ _ _ hp.2.2
  obtain ⟨U, Ls, c0, s0⟩ := A
  dsimp only [Pt.U, Pt.locs, Pt.cells, Pt.slots] at h1 h2 h3 h4 h5 X hn hPc ⊢
  obtain ⟨m9, methY, cY, hn9, hmY, hcY, -, hlY, -⟩ := Cond.codeWith_spec h2
  cases Option.some.inj (hn9.symm.trans hn)
  obtain ⟨kY, hkY, -⟩ := className_of_methodNamed hn
  have hinitY : kY.init = .initialized := Cond.initialized_spec (findClass_of_methodNamed hn) hkY h3
  have h : At U g.method c below := by rw [hg]; exact X.here
  have hlocals9 : W9 + (maxL + 11) + (headSpec ws rm).room.locals ≤ R.locals := hlocals
  have happ : (headSpec ws rm).appliesLoose y e.platform (U.calling g mk a) = true :=
    Spec.appliesLoose_calling (g := g) h hdg hn hkY hinitY
      (X.room_calling (g := g) (R' := (headSpec ws rm).room) hsize hmY hcY hframes (by rw [hlY]; omega) h4 h5) h1
  obtain ⟨mid, hmid⟩ := h.above
  have hfr : (U.setTop g).frames = (.java g :: mid) ++ below := by rw [State.frames_setTop' g h.top, hmid]; rfl
  obtain ⟨o, s₂, hsteps, -, hend, hq⟩ := Steps.callFree hM p X.admits X.cas X.clock (acts := []) hfr happ hPc trivial
  have hq' : vx_Q Qc XC mc ms free a (U.calling g mk a) o s₂ := hq
  rw [State.frames_setTop' g h.top] at hend
  obtain ⟨g₀, hg0⟩ := Option.isSome_iff_exists.mp h.top
  obtain ⟨r, hr⟩ := State.topJava?_eq_some.mp hg0
  have hr' : (({ U with heap := s₂.heap, slotsUsed := s₂.slotsUsed } : State).setVm s₂.vm).frames = .java g₀ :: r := hr
  rcases hq' with ⟨hqc, L, hfe, hL⟩ | ⟨q, rfl, E, ce, L, hx, hce, hcv, hcl, hW₂, hsm, hL⟩
  · obtain ⟨⟨v, rfl⟩, hW₂, e2, q2, q3, q4, q5, q6⟩ := id hfe
    have e3 : s₂ = ({ (U.calling g mk a).setFrames s₂.frames with heap := s₂.heap, slotsUsed := s₂.slotsUsed } : State).setVm s₂.vm := by
      have : s₂ = ({ s₂ with vm := (U.calling g mk a).vm } : State).setVm s₂.vm := rfl
      rw [e2] at this
      exact this
    obtain ⟨c₂, i₂, len₂, hc₂, hd₂, hf₂⟩ := hend
    have hW' : U.WarmedH s₂.vm := hW₂
    have hcc : c₂ = c := by
      have h1 : s₂.code? g.method = U.code? g.method := by
        rw [State.code?_eq, State.code?_eq, hW'.alike.method?]
      exact Option.some.inj (hc₂.symm.trans (h1.trans h.code))
    subst hcc
    have hlen : len₂ = len := by rw [hdg] at hd₂; cases hd₂; rfl
    subst hlen
    have hs₂ : s₂ = (({ U with heap := s₂.heap, slotsUsed := s₂.slotsUsed } : State).setVm s₂.vm).setTop { g with pc := g.pc + len₂, stack := v.toList ++ g.stack } := by
      refine e3.trans ?_
      rw [hf₂, State.calling_eq h.top, State.setFrames_setFrames, State.setTop_of_frames _ hr', hr]
      rfl
    have hsame : U.sameButNew ({ U with heap := s₂.heap, slotsUsed := s₂.slotsUsed } : State) L mc ms := by
      refine ⟨?_, q2, q3, q4, q5, q6⟩
      obtain ⟨t, ht, -⟩ := State.frames_cons hr
      show ({ U with heap := s₂.heap, slotsUsed := s₂.slotsUsed } : State) = { U.setFrames U.frames with heap := s₂.heap, slotsUsed := s₂.slotsUsed }
      rw [State.setFrames_self ht]
    subst hg
    refine Or.inl ⟨v, ⟨(({ U with heap := s₂.heap, slotsUsed := s₂.slotsUsed } : State).setVm s₂.vm), Ls ++ L, c0 + mc, s0 + ms⟩,
      ⟨X.admits, X.cas, X.clock, X.frames, X.room, X.hears, X.method, X.code, (X.here.setHeapUsed s₂.heap s₂.slotsUsed).setVm hW'.alike, X.tail, State.WarmedH.trans X.warmed hW', X.limits, X.bytes, X.same.trans (hsame.setVm s.vm)⟩,
      ⟨g, mk, s₂, L, rfl, rfl, hqc, rfl, hL, rfl, rfl⟩, ?_⟩
    show Steps p.tables e below _ ((({ U with heap := s₂.heap, slotsUsed := s₂.slotsUsed } : State).setVm s₂.vm).setTop { g with pc := g.pc + len₂, stack := v.toList ++ g.stack })
    rw [← hs₂]
    exact hsteps
  · obtain ⟨e2, q2, q3, q4, q5, q6⟩ := id hsm
    have e3 : s₂ = ({ (U.calling g mk a).setFrames s₂.frames with heap := s₂.heap, slotsUsed := s₂.slotsUsed } : State).setVm s₂.vm := by
      have : s₂ = ({ s₂ with vm := (U.calling g mk a).vm } : State).setVm s₂.vm := rfl
      rw [e2] at this
      exact this
    have hf₂ : s₂.frames = .throwing q :: .java g :: U.frames.tail := hend
    have hW' : U.WarmedH s₂.vm := hW₂
    have hs₂ : s₂ = ((({ U with heap := s₂.heap, slotsUsed := s₂.slotsUsed } : State).setVm s₂.vm).setTop g).pushFrame (.throwing q) := by
      refine e3.trans ?_
      rw [hf₂, State.calling_eq h.top, State.setFrames_setFrames, State.pushFrame, State.frames_setTop _ hr', State.setTop_of_frames _ hr', State.setFrames_setFrames, hr]
      rfl
    have hsame : U.sameButNew ({ U with heap := s₂.heap, slotsUsed := s₂.slotsUsed } : State) L mc ms := by
      refine ⟨?_, q2, q3, q4, q5, q6⟩
      obtain ⟨t, ht, -⟩ := State.frames_cons hr
      show ({ U with heap := s₂.heap, slotsUsed := s₂.slotsUsed } : State) = { U.setFrames U.frames with heap := s₂.heap, slotsUsed := s₂.slotsUsed }
      rw [State.setFrames_self ht]
    subst hg
    refine Or.inr ⟨q, ⟨(({ U with heap := s₂.heap, slotsUsed := s₂.slotsUsed } : State).setVm s₂.vm), Ls ++ L, c0 + mc, s0 + ms⟩,
      ⟨X.admits, X.cas, X.clock, X.frames, X.room, X.hears, X.method, X.code, (X.here.setHeapUsed s₂.heap s₂.slotsUsed).setVm hW'.alike, X.tail, State.WarmedH.trans X.warmed hW', X.limits, X.bytes, X.same.trans (hsame.setVm s.vm)⟩,
      ⟨g, mk, s₂, L, E, ce, rfl, rfl, hx, hce, hcv, hcl, rfl, hL, rfl, rfl⟩, ?_⟩
    show Steps p.tables e below _ (((({ U with heap := s₂.heap, slotsUsed := s₂.slotsUsed } : State).setVm s₂.vm).setTop g).pushFrame (.throwing q))
    rw [← hs₂]
    exact hsteps
end
variable {p : Program} {l : Launch} {e : Env} {R : Room} {s : State} {m : MethodId} {args : Array Value} {below : List Frame} {meth : Method} {c : Code} {T : State} {H : Heap} {locs : List Loc} {cells slots : Nat}
theorem vx_callVX (X : Stand p l e R s m args below meth c T locs cells slots) (hexec : p.tables.exec = Jvm.exec) {own C : String} {index : Nat} {y : MethodName} {bytes : ByteArray} {maxL : Nat} {ret : Option FieldType} {hh : List (Nat × Nat × Nat × Nat)}
    (hown : s.vm.findClass own = some m.cls) (hlink : (Cond.methodLink own index y).before args s = true) (hinst : (Cond.instanceMethod y).before args s = true) (hsel : (Cond.selects C y y).before args s = true)
    (hcode : (Cond.codeWith y bytes maxL ret hh).before args s = true) (hy : y.cls ≠ "java/lang/invoke/MethodHandle" ∧ y.cls ≠ "java/lang/invoke/VarHandle")
    {W9 : Nat} {Pre : Pt → Array Value → Prop} {Post : Pt → Array Value → Option Value → Pt → Prop} {PostX : Pt → Array Value → Addr → Pt → Prop} (hK : vx_Back l R p e below s args y 3 W9 Pre Post PostX)
    {b : Addr} {cellB : Cell} (hcell : T.heap[b]? = some cellB) (hobj : cellB.vm.isStatics = false) (hcls : s.vm.findClass C = some cellB.cls)
    {g : JFrame} (hg : g.method = m) (hsize : g.locals.size = c.maxLocals) {argsL rest : List Value} (hlen : ∀ sig, parseMethodDescriptor y.desc = some sig → argsL.length = sig.parameters.length)
    (hstack : g.stack = argsL.reverse ++ .ref b :: rest) (hW : 2 * g.monitorRoom + (rest.map fun v => v.category).sum ≤ W9) (hdg : decode c.code g.pc = .ok (.invokevirtual index, 3))
    (hpre : ∀ vm₁, s.WarmedH vm₁ → Pre ⟨T.setVm vm₁, locs, cells, slots⟩ (Value.ref b :: argsL).toArray) :
    (∃ (v : Option Value) (vm₁ : Vm) (B : Pt), s.WarmedH vm₁ ∧ Stand p l e R s m args below meth c B.U B.locs B.cells B.slots ∧ Post ⟨T.setVm vm₁, locs, cells, slots⟩ (Value.ref b :: argsL).toArray v B ∧
      ∀ target, Steps p.tables e below (B.U.setTop { g with pc := g.pc + 3, stack := v.toList ++ rest }) target → Steps p.tables e below (T.setTop g) target) ∨
    (∃ (q : Addr) (vm₁ : Vm) (B : Pt), s.WarmedH vm₁ ∧ Stand p l e R s m args below meth c B.U B.locs B.cells B.slots ∧ PostX ⟨T.setVm vm₁, locs, cells, slots⟩ (Value.ref b :: argsL).toArray q B ∧
      Steps p.tables e below (T.setTop g) ((B.U.setTop { g with stack := rest }).pushFrame (.throwing q))) := by
  obtain ⟨mk, methM, hnamed, hmethM, hstM, habM⟩ := Cond.instanceMethod_spec hinst
  obtain ⟨m8, methM', cM, hn8, hmethM', -, -, -, -, -, -, hsigM⟩ := Cond.codeWith_spec hcode
  cases Option.some.inj (hn8.symm.trans hnamed)
  cases hmethM.symm.trans hmethM'
  obtain ⟨c2, r2, m2, q1, q2, q3, q4, kP, hkP, hkPi⟩ := Cond.selects_spec hsel
  cases hcls.symm.trans q1
  cases (State.methodFound?_of_named hnamed hy).symm.trans q2
  cases hnamed.symm.trans q3
  have hselP : selectMethod e.platform s.vm cellB.cls mk = .method mk := by rw [Launch.admits_selectMethod X.admits]; exact q4
  obtain ⟨vm₁, X₁, hstep₁⟩ := X.invokevirtual hexec hown hlink hnamed hmethM hstM hkP hkPi hy (a := b) (cell := cellB) hcell
    (fun z h => by rw [h] at hobj; cases hobj) hselP hmethM habM hkP hkPi (g := g) hg (argsL := argsL) (rest := rest) (hlen _ hsigM) hstack hdg
  rcases hK m meth c ⟨T.setVm vm₁, locs, cells, slots⟩ { g with stack := rest } (.invokevirtual index) mk (Value.ref b :: argsL).toArray X₁ hg hsize hdg hW (X₁.named hnamed) (hpre vm₁ X₁.warmed) with ⟨v, B, X', hpost, hsteps⟩ | ⟨q, B, X', hpost, hsteps⟩
  · exact Or.inl ⟨v, vm₁, B, X₁.warmed, X', hpost, fun target h => hstep₁ _ fun acts => by rw [doInvoke_state]; exact hsteps.trans h⟩
  · exact Or.inr ⟨q, vm₁, B, X₁.warmed, X', hpost, hstep₁ _ fun acts => by rw [doInvoke_state]; exact hsteps⟩
theorem vx_callSX (X : Stand p l e R s m args below meth c T locs cells slots) (hexec : p.tables.exec = Jvm.exec) {own : String} {index : Nat} {y : MethodName} {bytes : ByteArray} {maxL : Nat} {ret : Option FieldType} {hh : List (Nat × Nat × Nat × Nat)}
    (hown : s.vm.findClass own = some m.cls) (hlink : (Cond.methodLink own index y).before args s = true) (hstat : (Cond.static y).before args s = true) (hinit : (Cond.initialized y.cls).before args s = true)
    (hcode : (Cond.codeWith y bytes maxL ret hh).before args s = true) (hy : y.cls ≠ "java/lang/invoke/MethodHandle" ∧ y.cls ≠ "java/lang/invoke/VarHandle")
    {W9 : Nat} {Pre : Pt → Array Value → Prop} {Post : Pt → Array Value → Option Value → Pt → Prop} {PostX : Pt → Array Value → Addr → Pt → Prop} (hK : vx_Back l R p e below s args y 3 W9 Pre Post PostX)
    {g : JFrame} (hg : g.method = m) (hsize : g.locals.size = c.maxLocals) {argsL rest : List Value} (hlen : ∀ sig, parseMethodDescriptor y.desc = some sig → argsL.length = sig.parameters.length)
    (hstack : g.stack = argsL.reverse ++ rest) (hW : 2 * g.monitorRoom + (rest.map fun v => v.category).sum ≤ W9) (hdg : decode c.code g.pc = .ok (.invokestatic index, 3))
    (hpre : ∀ vm₁, s.WarmedH vm₁ → Pre ⟨T.setVm vm₁, locs, cells, slots⟩ argsL.toArray) :
    (∃ (v : Option Value) (vm₁ : Vm) (B : Pt), s.WarmedH vm₁ ∧ Stand p l e R s m args below meth c B.U B.locs B.cells B.slots ∧ Post ⟨T.setVm vm₁, locs, cells, slots⟩ argsL.toArray v B ∧
      ∀ target, Steps p.tables e below (B.U.setTop { g with pc := g.pc + 3, stack := v.toList ++ rest }) target → Steps p.tables e below (T.setTop g) target) ∨
    (∃ (q : Addr) (vm₁ : Vm) (B : Pt), s.WarmedH vm₁ ∧ Stand p l e R s m args below meth c B.U B.locs B.cells B.slots ∧ PostX ⟨T.setVm vm₁, locs, cells, slots⟩ argsL.toArray q B ∧
      Steps p.tables e below (T.setTop g) ((B.U.setTop { g with stack := rest }).pushFrame (.throwing q))) := by
  obtain ⟨mk, methM, cM, hnamed, hmethM, -, -, -, -, -, -, hsigM⟩ := Cond.codeWith_spec hcode
  have hstatic : methM.isStatic = true := Cond.static_spec hnamed hmethM hstat
  obtain ⟨kP, hkP, -⟩ := className_of_methodNamed hnamed
  have hinitP : kP.init = .initialized := Cond.initialized_spec (findClass_of_methodNamed hnamed) hkP hinit
  obtain ⟨vm₁, X₁, hstep₁⟩ := X.invokestatic hexec hown hlink hnamed hmethM hstatic hkP hinitP hy (g := g) hg (argsL := argsL) (rest := rest) (hlen _ hsigM) hstack hdg
  rcases hK m meth c ⟨T.setVm vm₁, locs, cells, slots⟩ { g with stack := rest } (.invokestatic index) mk argsL.toArray X₁ hg hsize hdg hW (X₁.named hnamed) (hpre vm₁ X₁.warmed) with ⟨v, B, X', hpost, hsteps⟩ | ⟨q, B, X', hpost, hsteps⟩
  · exact Or.inl ⟨v, vm₁, B, X₁.warmed, X', hpost, fun target h => hstep₁ _ fun acts => by rw [doInvoke_state]; exact hsteps.trans h⟩
  · exact Or.inr ⟨q, vm₁, B, X₁.warmed, X', hpost, hstep₁ _ fun acts => by rw [doInvoke_state]; exact hsteps⟩
theorem vx_callVW (X : Stand p l e R s m args below meth c T locs cells slots) (hexec : p.tables.exec = Jvm.exec) {own C : String} {index : Nat} {y : MethodName} {bytes : ByteArray} {maxL : Nat} {ret : Option FieldType} {hh : List (Nat × Nat × Nat × Nat)}
    (hown : s.vm.findClass own = some m.cls) (hlink : (Cond.methodLink own index y).before args s = true) (hinst : (Cond.instanceMethod y).before args s = true) (hsel : (Cond.selects C y y).before args s = true)
    (hcode : (Cond.codeWith y bytes maxL ret hh).before args s = true) (hy : y.cls ≠ "java/lang/invoke/MethodHandle" ∧ y.cls ≠ "java/lang/invoke/VarHandle")
    {W9 : Nat} {Pre : Pt → Array Value → Prop} {Post : Pt → Array Value → Option Value → Pt → Prop} (hK : Back l R p e below s args y 3 W9 Pre Post)
    {b : Addr} {cellB : Cell} (hcell : T.heap[b]? = some cellB) (hobj : cellB.vm.isStatics = false) (hcls : s.vm.findClass C = some cellB.cls)
    {g : JFrame} (hg : g.method = m) (hsize : g.locals.size = c.maxLocals) {argsL rest : List Value} (hlen : ∀ sig, parseMethodDescriptor y.desc = some sig → argsL.length = sig.parameters.length)
    (hstack : g.stack = argsL.reverse ++ .ref b :: rest) (hW : 2 * g.monitorRoom + (rest.map fun v => v.category).sum ≤ W9) (hdg : decode c.code g.pc = .ok (.invokevirtual index, 3))
    (hpre : ∀ vm₁, s.WarmedH vm₁ → Pre ⟨T.setVm vm₁, locs, cells, slots⟩ (Value.ref b :: argsL).toArray) :
    ∃ (v : Option Value) (vm₁ : Vm) (B : Pt), s.WarmedH vm₁ ∧ Stand p l e R s m args below meth c B.U B.locs B.cells B.slots ∧ Post ⟨T.setVm vm₁, locs, cells, slots⟩ (Value.ref b :: argsL).toArray v B ∧
      ∀ target, Steps p.tables e below (B.U.setTop { g with pc := g.pc + 3, stack := v.toList ++ rest }) target → Steps p.tables e below (T.setTop g) target := by
  obtain ⟨mk, methM, hnamed, hmethM, hstM, habM⟩ := Cond.instanceMethod_spec hinst
  obtain ⟨m8, methM', cM, hn8, hmethM', -, -, -, -, -, -, hsigM⟩ := Cond.codeWith_spec hcode
  cases Option.some.inj (hn8.symm.trans hnamed)
  cases hmethM.symm.trans hmethM'
  obtain ⟨c2, r2, m2, q1, q2, q3, q4, kP, hkP, hkPi⟩ := Cond.selects_spec hsel
  cases hcls.symm.trans q1
  cases (State.methodFound?_of_named hnamed hy).symm.trans q2
  cases hnamed.symm.trans q3
  have hselP : selectMethod e.platform s.vm cellB.cls mk = .method mk := by rw [Launch.admits_selectMethod X.admits]; exact q4
  obtain ⟨vm₁, X₁, hstep₁⟩ := X.invokevirtual hexec hown hlink hnamed hmethM hstM hkP hkPi hy (a := b) (cell := cellB) hcell
    (fun z h => by rw [h] at hobj; cases hobj) hselP hmethM habM hkP hkPi (g := g) hg (argsL := argsL) (rest := rest) (hlen _ hsigM) hstack hdg
  obtain ⟨v, B, X', hpost, hsteps⟩ := hK m meth c ⟨T.setVm vm₁, locs, cells, slots⟩ { g with stack := rest } (.invokevirtual index) mk (Value.ref b :: argsL).toArray X₁ hg hsize hdg hW (X₁.named hnamed) (hpre vm₁ X₁.warmed)
  exact ⟨v, vm₁, B, X₁.warmed, X', hpost, fun target h => hstep₁ _ fun acts => by rw [doInvoke_state]; exact hsteps.trans h⟩
abbrev vx_CVW (R : Room) (s : State) (args : Array Value) (own C : String) (index : Nat) (y : MethodName) (bytes : ByteArray) (maxL : Nat) (ret : Option FieldType) (hh : List (Nat × Nat × Nat × Nat)) (ws : List Cond) (rm : Room) (mc ms n : Nat) : Prop :=
  (rm.cells = mc ∧ rm.slots = ms ∧ rm.frames + 1 ≤ R.frames ∧ 8 + (maxL + 11) + rm.locals ≤ R.locals ∧ (∀ w ∈ ws, ∀ (a' : Array Value) (U : State), s.WarmedH U.vm → w.before a' U = true) ∧ Cond.codeWith y bytes maxL ret hh ∈ ws) ∧
  (Cond.codeWith y bytes maxL ret hh).before args s = true ∧ (Cond.initialized y.cls).before args s = true ∧ (y.cls ≠ "java/lang/invoke/MethodHandle" ∧ y.cls ≠ "java/lang/invoke/VarHandle") ∧
  (∀ sig, parseMethodDescriptor y.desc = some sig → n = sig.parameters.length) ∧ (Cond.methodLink own index y).before args s = true ∧ (Cond.instanceMethod y).before args s = true ∧ (Cond.selects C y y).before args s = true
theorem vx_cwVW {own C : String} {index maxL mc ms : Nat} {y : MethodName} {bytes : ByteArray} {ret : Option FieldType} {hh : List (Nat × Nat × Nat × Nat)} {Ts ws ws' : List Cond} {rm : Room} (n : Nat) (ht : ∀ w ∈ Ts, w.before args s = true) (hT : GoodIn Ts (wsV own index C y ws)) (hw : ws = Cond.codeWith y bytes maxL ret hh :: ws') (hrc : rm.cells = mc) (hrs : rm.slots = ms)
    (hd : y.cls = C ∧ y.cls ≠ "java/lang/invoke/MethodHandle" ∧ y.cls ≠ "java/lang/invoke/VarHandle" ∧ (parseMethodDescriptor y.desc).map (fun d => d.parameters.length) = some n) (hR : rm.frames + 1 ≤ R.frames ∧ 8 + (maxL + 11) + rm.locals ≤ R.locals) :
    vx_CVW R s args own C index y bytes maxL ret hh ws rm mc ms n := by
  obtain ⟨hC, hd⟩ := hd
  subst hC
  have ok : ∀ w ∈ wsV own index y.cls y ws, w.before args s = true := fun w h => ht w (hT w h).1
  have hG : GoodIn Ts ws := fun w h => hT w (by unfold wsV; exact List.mem_append_right _ h)
  have hc : Cond.codeWith y bytes maxL ret hh ∈ ws := by rw [hw]; exact List.mem_cons_self
  refine ⟨⟨hrc, hrs, hR.1, hR.2, pay_in ht hG, hc⟩, ht _ (hG _ hc).1, ok _ (by simp [wsV]), ⟨hd.1, hd.2.1⟩, fun sig h => ?_, ok _ (by simp [wsV]), ok _ (by simp [wsV]), ok _ (by simp [wsV])⟩
  have h2 := hd.2.2
  rw [h] at h2
  exact (Option.some.inj h2).symm
theorem vx_runVW {y : MethodName} {bytes cc : ByteArray} {maxL nL mc ms n index : Nat} {ret : Option FieldType} {hh : List (Nat × Nat × Nat × Nat)} {ws : List Cond} {rm : Room} {Pc : Array Value → State → Prop} {Qc : Array Value → State → Outcome → State → Prop} {free : Addr → Prop} {Ts : List Cond} {own C : String} {b : Addr} {As rest : List Value} {g : JFrame}
    (S : CallFix p m c cc nL s args Ts own) (hM : Met l y ws rm Pc Qc mc ms free) (cw : vx_CVW R s args own C index y bytes maxL ret hh ws rm mc ms n) (hp : PreV s H C b Pc As)
    (hg : g.method = m) (hn : As.length = n) (hsize : g.locals.size = nL) (hstack : g.stack = As.reverse ++ .ref b :: rest) (hW : 2 * g.monitorRoom + (rest.map fun v => v.category).sum ≤ 8) (hdg : decode cc g.pc = .ok (.invokevirtual index, 3)) (hf : cells + mc ≤ R.cells ∧ slots + ms ≤ R.slots) :
    va_Run p l e R s m args below meth c H locs cells slots mc ms g rest (Qc (Value.ref b :: As).toArray) free := by
  obtain ⟨⟨hrc, hrs, hfr, hlo, hws, hcw⟩, hcode, hini, hy, hlen, hl, hin, hse⟩ := cw
  have hK : Back l R p e below s args y 3 8 (PreOf R mc ms Pc) (PostOf Qc mc ms free) := va_backW (hh := hh) (bytes := bytes) (maxL := maxL) (ret := ret) hM hp.1 hrc hrs hfr hlo hws hcw (fun a' U hW => word_at hW (Or.inl (by first | rfl | simp [Cond.onTables, Cond.keeps, Cond.steady])) hini)
  obtain ⟨hx, hb, hml, ho, -⟩ := S
  obtain ⟨-, ⟨cellB, hcB, hoB, hclB⟩, hPc⟩ := hp
  intro T hT X
  obtain ⟨v, vm₁, ⟨U', l2, c2, s2⟩, hW₁, X', ⟨g', mk, t, L, e1, e2, hq, h1, hL, h2, h3⟩, st⟩ := vx_callVW X hx (C := C) (hh := hh) (bytes := bytes) (maxL := maxL) (ret := ret) ho hl hin hse hcode hy hK (by rw [hT]; exact hcB) hoB hclB hg (hsize.trans hml.symm) (argsL := As) (rest := rest) (fun sig h => hn.trans (hlen sig h)) hstack hW (by rw [hb]; exact hdg)
    (fun vm₁ hW₁ => ⟨hf.1, hf.2, hPc (T.setVm vm₁) hT hW₁⟩)
  dsimp only [Pt.U, Pt.locs, Pt.cells, Pt.slots] at X' e1 e2 h1 h2 h3 st
  subst h1; subst h2; subst h3
  exact ⟨v, (T.setVm vm₁).calling g' mk (Value.ref b :: As).toArray, t, U', L, hT, X', hL, e1, e2, hq, st⟩
section
variable {y : MethodName} {bytes cc : ByteArray} {maxL nL mc ms n index : Nat} {ret : Option FieldType} {ws : List Cond} {rm : Room} {Pc : Array Value → State → Prop} {Qc : Array Value → State → Outcome → State → Prop} {XC : String → State → State → Prop} {free : Addr → Prop} {Ts : List Cond} {own C : String} {b : Addr} {As rest : List Value} {g : JFrame}
theorem vx_runVX {hh : List (Nat × Nat × Nat × Nat)} (S : CallFix p m c cc nL s args Ts own) (hM : vx_Met l y ws rm Pc Qc XC mc ms free) (cw : vx_CVW R s args own C index y bytes maxL ret hh ws rm mc ms n) (hp : PreV s H C b Pc As)
    (hg : g.method = m) (hn : As.length = n) (hsize : g.locals.size = nL) (hstack : g.stack = As.reverse ++ .ref b :: rest) (hW : 2 * g.monitorRoom + (rest.map fun v => v.category).sum ≤ 8) (hdg : decode cc g.pc = .ok (.invokevirtual index, 3)) (hf : cells + mc ≤ R.cells ∧ slots + ms ≤ R.slots) :
    vx_Run p l e R s m args below meth c H locs cells slots mc ms g rest (Qc (Value.ref b :: As).toArray) XC free := by
  obtain ⟨⟨hrc, hrs, hfr, hlo, hws, hcw⟩, hcode, hini, hy, hlen, hl, hin, hse⟩ := cw
  have hK : vx_Back l R p e below s args y 3 8 (PreOf R mc ms Pc) (PostOf Qc mc ms free) (vx_Post XC mc ms free) := vx_backW (hh := hh) (bytes := bytes) (maxL := maxL) (ret := ret) hM hp.1 hrc hrs hfr hlo hws hcw (fun a' U hW => word_at hW (Or.inl (by first | rfl | simp [Cond.onTables, Cond.keeps, Cond.steady])) hini)
  obtain ⟨hx, hb, hml, ho, -⟩ := S
  obtain ⟨-, ⟨cellB, hcB, hoB, hclB⟩, hPc⟩ := hp
  intro T hT X
  rcases vx_callVX X hx (C := C) (hh := hh) (bytes := bytes) (maxL := maxL) (ret := ret) ho hl hin hse hcode hy hK (by rw [hT]; exact hcB) hoB hclB hg (hsize.trans hml.symm) (argsL := As) (rest := rest) (fun sig h => hn.trans (hlen sig h)) hstack hW (by rw [hb]; exact hdg)
    (fun vm₁ hW₁ => ⟨hf.1, hf.2, hPc (T.setVm vm₁) hT hW₁⟩) with ⟨v, vm₁, ⟨U', l2, c2, s2⟩, hW₁, X', ⟨g', mk, t, L, e1, e2, hq, h1, hL, h2, h3⟩, st⟩ | ⟨q, vm₁, ⟨U', l2, c2, s2⟩, hW₁, X', ⟨g', mk, t, L, E, ce, e1, e2, hq, hce, hcv, hcl, h1, hL, h2, h3⟩, st⟩
  · dsimp only [Pt.U, Pt.locs, Pt.cells, Pt.slots] at X' e1 e2 h1 h2 h3 st
    subst h1; subst h2; subst h3
    exact Or.inl ⟨v, (T.setVm vm₁).calling g' mk (Value.ref b :: As).toArray, t, U', L, hT, X', hL, e1, e2, hq, st⟩
  · dsimp only [Pt.U, Pt.locs, Pt.cells, Pt.slots] at X' e1 e2 h1 h2 h3 st hcl
    subst h1; subst h2; subst h3
    exact Or.inr ⟨q, (T.setVm vm₁).calling g' mk (Value.ref b :: As).toArray, t, U', L, E, ce, hT, X', hL, e1, e2, hq, hce, hcv, vx_cls hW₁ hcl, st⟩
theorem vx_runSX {hh : List (Nat × Nat × Nat × Nat)} (S : CallFix p m c cc nL s args Ts own) (hM : vx_Met l y ws rm Pc Qc XC mc ms free) (cw : vx_CSW R s args own index y bytes maxL ret hh ws rm mc ms n) (hp : PreS s H Pc As)
    (hg : g.method = m) (hn : As.length = n) (hsize : g.locals.size = nL) (hstack : g.stack = As.reverse ++ rest) (hW : 2 * g.monitorRoom + (rest.map fun v => v.category).sum ≤ 8) (hdg : decode cc g.pc = .ok (.invokestatic index, 3)) (hf : cells + mc ≤ R.cells ∧ slots + ms ≤ R.slots) :
    vx_Run p l e R s m args below meth c H locs cells slots mc ms g rest (Qc As.toArray) XC free := by
  obtain ⟨⟨hrc, hrs, hfr, hlo, hws, hcw⟩, hcode, hini, hy, hlen, hl, hstt⟩ := cw
  have hK : vx_Back l R p e below s args y 3 8 (PreOf R mc ms Pc) (PostOf Qc mc ms free) (vx_Post XC mc ms free) := vx_backW (hh := hh) (bytes := bytes) (maxL := maxL) (ret := ret) hM hp.1 hrc hrs hfr hlo hws hcw (fun a' U hW => word_at hW (Or.inl (by first | rfl | simp [Cond.onTables, Cond.keeps, Cond.steady])) hini)
  obtain ⟨hx, hb, hml, ho, -⟩ := S
  intro T hT X
  rcases vx_callSX X hx (hh := hh) (bytes := bytes) (maxL := maxL) (ret := ret) ho hl hstt hini hcode hy hK hg (hsize.trans hml.symm) (argsL := As) (rest := rest) (fun sig h => hn.trans (hlen sig h)) hstack hW (by rw [hb]; exact hdg)
    (fun vm₁ hW₁ => ⟨hf.1, hf.2, hp.2 (T.setVm vm₁) hT hW₁⟩) with ⟨v, vm₁, ⟨U', l2, c2, s2⟩, hW₁, X', ⟨g', mk, t, L, e1, e2, hq, h1, hL, h2, h3⟩, st⟩ | ⟨q, vm₁, ⟨U', l2, c2, s2⟩, hW₁, X', ⟨g', mk, t, L, E, ce, e1, e2, hq, hce, hcv, hcl, h1, hL, h2, h3⟩, st⟩
  · dsimp only [Pt.U, Pt.locs, Pt.cells, Pt.slots] at X' e1 e2 h1 h2 h3 st
    subst h1; subst h2; subst h3
    exact Or.inl ⟨v, (T.setVm vm₁).calling g' mk As.toArray, t, U', L, hT, X', hL, e1, e2, hq, st⟩
  · dsimp only [Pt.U, Pt.locs, Pt.cells, Pt.slots] at X' e1 e2 h1 h2 h3 st hcl
    subst h1; subst h2; subst h3
    exact Or.inr ⟨q, (T.setVm vm₁).calling g' mk As.toArray, t, U', L, E, ce, hT, X', hL, e1, e2, hq, hce, hcv, vx_cls hW₁ hcl, st⟩
end
end VXH
theorem vx_ofWH {l : Launch} {y : MethodName} {ws ws' : List Cond} {rm : Room} {Pc : Array Value → State → Prop} {Qc : Array Value → State → Outcome → State → Prop} {XC : String → State → State → Prop} {mc ms : Nat} {free : Addr → Prop} {cc : ByteArray} {maxL : Nat} {ret : Option FieldType} {hh : List (Nat × Nat × Nat × Nat)}
    (hy : plainName y.cls = true) (hw : ws = Cond.codeWith y cc maxL ret hh :: ws')
    (body : ∀ p e s m args below meth c s₁, BodyLoose p l y (headSpec ws rm) cc maxL ret e s m args below meth c s₁ → c.maxLocals = maxL → Pc args s →
      W p l e (headSpec ws rm).room s m args below meth c s.heap [] 0 0 (vx_MQ below Qc XC args s mc ms free) (entryFrame m args maxL)) : vx_Met l y ws rm Pc Qc XC mc ms free := by
  refine MetFree.of_bodyS (code := cc) (maxLocals := maxL) (ret := ret) hy ?_ ?_
  · intro args s m h hn
    obtain ⟨m9, meth, c, hn9, h1, h2, h3, h4, -, h5, h6, -⟩ := Cond.codeWith_spec (atoms_spec (ws := ws) h _ (by rw [hw]; exact List.mem_cons_self))
    cases hn.symm.trans hn9
    exact ⟨meth, c, h1, h2, h3, h4, h5, h6⟩
  · intro p e s m args below meth c s₁ B hml hP _
    have hh0 : s₁.heap = s.heap := by rw [B.state]; rfl
    obtain ⟨t, a1, o, b1, b2, b3⟩ := body p e s m args below meth c s₁ B hml hP s₁ hh0 (Stand.of_body B)
    exact ⟨t, o, a1, b1, b2, b3⟩
/-! ===== END ===== -/
end
section
/-! ===== BEGIN printed: names, fields, word lists, decode rows ===== -/
def RX0 : String := "RafterPlaces$Fraction"
def TX0 : u_T := fun k => match k with
  | 0 => ("RafterPlaces$Fraction", "above", "J", true)
  | _ => ("RafterPlaces$Fraction", "below", "J", true)
def tyX0 : Nat → FieldType := fun k => match k with
  | 0 => .long
  | _ => .long
abbrev wsX00 : List Cond := u_ws RX0 TX0 2
theorem nmX0 : ∀ a, a < 2 → ∀ b, b < 2 → a ≠ b → (TX0 a).2.1 ≠ (TX0 b).2.1 := by decide +kernel
theorem tyX0_ok : ∀ k, k < 2 → parseFieldDescriptor (TX0 k).2.2.1 = some (tyX0 k) := by decide +kernel
abbrev cX0_init : ByteArray := prog_2_method_1_code
def yX0_init : MethodName := ⟨RX0, "<init>", "(JJ)V"⟩
abbrev cX0_commonDivisor : ByteArray := prog_2_method_2_code
def yX0_commonDivisor : MethodName := ⟨RX0, "commonDivisor", "(JJ)J"⟩
abbrev cX0_part : ByteArray := prog_2_method_3_code
def yX0_part : MethodName := ⟨RX0, "part", "(I)J"⟩
abbrev cX0_cutOff : ByteArray := prog_2_method_4_code
def yX0_cutOff : MethodName := ⟨RX0, "cutOff", "()J"⟩
abbrev cX0_isLess : ByteArray := prog_2_method_5_code
def yX0_isLess : MethodName := ⟨RX0, "isLess", "(LRafterPlaces$Fraction;)Z"⟩
abbrev cX0_isSame : ByteArray := prog_2_method_6_code
def yX0_isSame : MethodName := ⟨RX0, "isSame", "(LRafterPlaces$Fraction;)Z"⟩
abbrev cX0_plus : ByteArray := prog_2_method_7_code
def yX0_plus : MethodName := ⟨RX0, "plus", "(LRafterPlaces$Fraction;)LRafterPlaces$Fraction;"⟩
abbrev cX0_takenFrom : ByteArray := prog_2_method_8_code
def yX0_takenFrom : MethodName := ⟨RX0, "takenFrom", "(J)LRafterPlaces$Fraction;"⟩
abbrev cX0_times : ByteArray := prog_2_method_9_code
def yX0_times : MethodName := ⟨RX0, "times", "(LRafterPlaces$Fraction;)LRafterPlaces$Fraction;"⟩
abbrev cX0_times_ : ByteArray := prog_2_method_10_code
def yX0_times_ : MethodName := ⟨RX0, "times", "(J)LRafterPlaces$Fraction;"⟩
abbrev cX0_inverse : ByteArray := prog_2_method_11_code
def yX0_inverse : MethodName := ⟨RX0, "inverse", "()LRafterPlaces$Fraction;"⟩
abbrev cX0_dividedBy : ByteArray := prog_2_method_12_code
def yX0_dividedBy : MethodName := ⟨RX0, "dividedBy", "(LRafterPlaces$Fraction;)LRafterPlaces$Fraction;"⟩
def RX1 : String := "RafterPlaces"
def TX1 : u_T := fun k => match k with
  | 0 => ("RafterPlaces", "extentX", "J", false)
  | 1 => ("RafterPlaces", "extentY", "J", false)
  | _ => ("RafterPlaces", "runs", "[LRafterPlaces$Fraction;", true)
def tyX1 : Nat → FieldType := fun k => match k with
  | 0 => .long
  | 1 => .long
  | _ => .array (.object "RafterPlaces$Fraction")
abbrev wsX10 : List Cond := u_ws RX1 TX1 3
theorem nmX1 : ∀ a, a < 3 → ∀ b, b < 3 → a ≠ b → (TX1 a).2.1 ≠ (TX1 b).2.1 := by decide +kernel
theorem tyX1_ok : ∀ k, k < 3 → parseFieldDescriptor (TX1 k).2.2.1 = some (tyX1 k) := by decide +kernel
abbrev cX1_init : ByteArray := prog_1_method_1_code
def yX1_init : MethodName := ⟨RX1, "<init>", "()V"⟩
abbrev cX1_outline : ByteArray := prog_1_method_2_code
def yX1_outline : MethodName := ⟨RX1, "outline", "(JJ)Z"⟩
abbrev cX1_slope : ByteArray := prog_1_method_3_code
def yX1_slope : MethodName := ⟨RX1, "slope", "(IJJ)Z"⟩
abbrev cX1_gable : ByteArray := prog_1_method_4_code
def yX1_gable : MethodName := ⟨RX1, "gable", "(I)Z"⟩
abbrev cX1_place : ByteArray := prog_1_method_5_code
def yX1_place : MethodName := ⟨RX1, "place", "(JJI)J"⟩
abbrev cX1_face : ByteArray := prog_1_method_6_code
def yX1_face : MethodName := ⟨RX1, "face", "(JJ)I"⟩
abbrev cX1_rafter : ByteArray := prog_1_method_7_code
def yX1_rafter : MethodName := ⟨RX1, "rafter", "(IJ)I"⟩
abbrev cX1_end : ByteArray := prog_1_method_8_code
def yX1_end : MethodName := ⟨RX1, "end", "(IJI)J"⟩
abbrev cX1_against : ByteArray := prog_1_method_9_code
def yX1_against : MethodName := ⟨RX1, "against", "(IJ)I"⟩
abbrev cX1_length : ByteArray := prog_1_method_10_code
def yX1_length : MethodName := ⟨RX1, "length", "(IJI)J"⟩
abbrev cX1_tangent : ByteArray := prog_1_method_11_code
def yX1_tangent : MethodName := ⟨RX1, "tangent", "(IJII)J"⟩
abbrev cX1_mouth : ByteArray := prog_1_method_12_code
def yX1_mouth : MethodName := ⟨RX1, "mouth", "(IJI)J"⟩
abbrev cX1_hip : ByteArray := prog_1_method_13_code
def yX1_hip : MethodName := ⟨RX1, "hip", "(III)J"⟩
abbrev cX1_peak : ByteArray := prog_1_method_14_code
def yX1_peak : MethodName := ⟨RX1, "peak", "(I)J"⟩
abbrev cX1_ridge : ByteArray := prog_1_method_15_code
def yX1_ridge : MethodName := ⟨RX1, "ridge", "(II)J"⟩
abbrev cX1_area : ByteArray := prog_1_method_16_code
def yX1_area : MethodName := ⟨RX1, "area", "(II)J"⟩
abbrev cX1_batten : ByteArray := prog_1_method_17_code
def yX1_batten : MethodName := ⟨RX1, "batten", "(IJ)I"⟩
abbrev cX1_checkIndex : ByteArray := prog_1_method_18_code
def yX1_checkIndex : MethodName := ⟨RX1, "checkIndex", "(II)V"⟩
abbrev cX1_checkNumber : ByteArray := prog_1_method_19_code
def yX1_checkNumber : MethodName := ⟨RX1, "checkNumber", "(JJJ)V"⟩
abbrev cX1_checkNoGable : ByteArray := prog_1_method_20_code
def yX1_checkNoGable : MethodName := ⟨RX1, "checkNoGable", "(I)V"⟩
abbrev cX1_checkOthersAreNotAllGables : ByteArray := prog_1_method_21_code
def yX1_checkOthersAreNotAllGables : MethodName := ⟨RX1, "checkOthersAreNotAllGables", "(I)V"⟩
abbrev cX1_checkInOutline : ByteArray := prog_1_method_22_code
def yX1_checkInOutline : MethodName := ⟨RX1, "checkInOutline", "(JJ)V"⟩
abbrev cX1_checkRafter : ByteArray := prog_1_method_23_code
def yX1_checkRafter : MethodName := ⟨RX1, "checkRafter", "(IJ)V"⟩
abbrev cX1_isGable : ByteArray := prog_1_method_24_code
def yX1_isGable : MethodName := ⟨RX1, "isGable", "(I)Z"⟩
abbrev cX1_changeRun : ByteArray := prog_1_method_25_code
def yX1_changeRun : MethodName := ⟨RX1, "changeRun", "(ILRafterPlaces$Fraction;)Z"⟩
abbrev cX1_sideBehind : ByteArray := prog_1_method_26_code
def yX1_sideBehind : MethodName := ⟨RX1, "sideBehind", "(I)I"⟩
abbrev cX1_opposite : ByteArray := prog_1_method_27_code
def yX1_opposite : MethodName := ⟨RX1, "opposite", "(I)I"⟩
abbrev cX1_goesAlongX : ByteArray := prog_1_method_28_code
def yX1_goesAlongX : MethodName := ⟨RX1, "goesAlongX", "(I)Z"⟩
abbrev cX1_sideLength : ByteArray := prog_1_method_29_code
def yX1_sideLength : MethodName := ⟨RX1, "sideLength", "(I)J"⟩
abbrev cX1_wayToOpposite : ByteArray := prog_1_method_30_code
def yX1_wayToOpposite : MethodName := ⟨RX1, "wayToOpposite", "(I)J"⟩
abbrev cX1_distanceFrom : ByteArray := prog_1_method_31_code
def yX1_distanceFrom : MethodName := ⟨RX1, "distanceFrom", "(IJJ)J"⟩
abbrev cX1_planeHeight : ByteArray := prog_1_method_32_code
def yX1_planeHeight : MethodName := ⟨RX1, "planeHeight", "(IJJ)LRafterPlaces$Fraction;"⟩
abbrev cX1_isLower : ByteArray := prog_1_method_33_code
def yX1_isLower : MethodName := ⟨RX1, "isLower", "(IIJJ)Z"⟩
abbrev cX1_lowestSide : ByteArray := prog_1_method_34_code
def yX1_lowestSide : MethodName := ⟨RX1, "lowestSide", "(JJ)I"⟩
abbrev cX1_limitBy : ByteArray := prog_1_method_35_code
def yX1_limitBy : MethodName := ⟨RX1, "limitBy", "(IIJ)LRafterPlaces$Fraction;"⟩
abbrev cX1_endingSide : ByteArray := prog_1_method_36_code
def yX1_endingSide : MethodName := ⟨RX1, "endingSide", "(IJ)I"⟩
abbrev cX1_rafterEnd : ByteArray := prog_1_method_37_code
def yX1_rafterEnd : MethodName := ⟨RX1, "rafterEnd", "(IJ)LRafterPlaces$Fraction;"⟩
abbrev cX1_squareAlongSlope : ByteArray := prog_1_method_38_code
def yX1_squareAlongSlope : MethodName := ⟨RX1, "squareAlongSlope", "(ILRafterPlaces$Fraction;)LRafterPlaces$Fraction;"⟩
abbrev cX1_cutTangent : ByteArray := prog_1_method_39_code
def yX1_cutTangent : MethodName := ⟨RX1, "cutTangent", "(IJI)LRafterPlaces$Fraction;"⟩
abbrev cX1_peakHeight : ByteArray := prog_1_method_40_code
def yX1_peakHeight : MethodName := ⟨RX1, "peakHeight", "()LRafterPlaces$Fraction;"⟩
abbrev cX1_inAtPeak : ByteArray := prog_1_method_41_code
def yX1_inAtPeak : MethodName := ⟨RX1, "inAtPeak", "(I)LRafterPlaces$Fraction;"⟩
abbrev cX1_ridgeBound : ByteArray := prog_1_method_42_code
def yX1_ridgeBound : MethodName := ⟨RX1, "ridgeBound", "(I)LRafterPlaces$Fraction;"⟩
abbrev cX1_twiceArea : ByteArray := prog_1_method_43_code
def yX1_twiceArea : MethodName := ⟨RX1, "twiceArea", "(I)LRafterPlaces$Fraction;"⟩
abbrev cX1_root : ByteArray := prog_1_method_44_code
def yX1_root : MethodName := ⟨RX1, "root", "(J)J"⟩
def RX2 : String := "RafterPlacesModel"
def TX2 : u_T := fun k => match k with
  | 0 => ("RafterPlacesModel", "code", "I", false)
  | 1 => ("RafterPlacesModel", "alongX", "J", false)
  | 2 => ("RafterPlacesModel", "alongY", "J", false)
  | 3 => ("RafterPlacesModel", "up", "[J", true)
  | 4 => ("RafterPlacesModel", "out", "[J", true)
  | 5 => ("RafterPlacesModel", "gables", "[Z", true)
  | 6 => ("RafterPlacesModel", "above", "J", false)
  | _ => ("RafterPlacesModel", "below", "J", false)
def tyX2 : Nat → FieldType := fun k => match k with
  | 0 => .int
  | 1 => .long
  | 2 => .long
  | 3 => .array .long
  | 4 => .array .long
  | 5 => .array .boolean
  | 6 => .long
  | _ => .long
abbrev wsX20 : List Cond := u_ws RX2 TX2 8
theorem nmX2 : ∀ a, a < 8 → ∀ b, b < 8 → a ≠ b → (TX2 a).2.1 ≠ (TX2 b).2.1 := by decide +kernel
theorem tyX2_ok : ∀ k, k < 8 → parseFieldDescriptor (TX2 k).2.2.1 = some (tyX2 k) := by decide +kernel
abbrev cX2_init : ByteArray := prog_4_method_1_code
def yX2_init : MethodName := ⟨RX2, "<init>", "()V"⟩
abbrev cX2_thrown : ByteArray := prog_4_method_2_code
def yX2_thrown : MethodName := ⟨RX2, "thrown", "()I"⟩
abbrev cX2_isIn : ByteArray := prog_4_method_3_code
def yX2_isIn : MethodName := ⟨RX2, "isIn", "(JJJ)Z"⟩
abbrev cX2_put : ByteArray := prog_4_method_4_code
def yX2_put : MethodName := ⟨RX2, "put", "(JJ)V"⟩
abbrev cX2_told : ByteArray := prog_4_method_5_code
def yX2_told : MethodName := ⟨RX2, "told", "(I)J"⟩
abbrev cX2_lesser : ByteArray := prog_4_method_6_code
def yX2_lesser : MethodName := ⟨RX2, "lesser", "(JJ)V"⟩
abbrev cX2_outline : ByteArray := prog_4_method_7_code
def yX2_outline : MethodName := ⟨RX2, "outline", "(JJ)Z"⟩
abbrev cX2_slope : ByteArray := prog_4_method_8_code
def yX2_slope : MethodName := ⟨RX2, "slope", "(IJJ)Z"⟩
abbrev cX2_gable : ByteArray := prog_4_method_9_code
def yX2_gable : MethodName := ⟨RX2, "gable", "(I)Z"⟩
abbrev cX2_depth : ByteArray := prog_4_method_10_code
def yX2_depth : MethodName := ⟨RX2, "depth", "(I)J"⟩
abbrev cX2_width : ByteArray := prog_4_method_11_code
def yX2_width : MethodName := ⟨RX2, "width", "(I)J"⟩
abbrev cX2_far : ByteArray := prog_4_method_12_code
def yX2_far : MethodName := ⟨RX2, "far", "(IJJ)J"⟩
abbrev cX2_lowest : ByteArray := prog_4_method_13_code
def yX2_lowest : MethodName := ⟨RX2, "lowest", "(JJ)I"⟩
abbrev cX2_isInside : ByteArray := prog_4_method_14_code
def yX2_isInside : MethodName := ⟨RX2, "isInside", "(JJ)Z"⟩
abbrev cX2_place : ByteArray := prog_4_method_15_code
def yX2_place : MethodName := ⟨RX2, "place", "(JJI)J"⟩
abbrev cX2_face : ByteArray := prog_4_method_16_code
def yX2_face : MethodName := ⟨RX2, "face", "(JJ)I"⟩
abbrev cX2_sideCode : ByteArray := prog_4_method_17_code
def yX2_sideCode : MethodName := ⟨RX2, "sideCode", "(I)I"⟩
abbrev cX2_rafterCode : ByteArray := prog_4_method_18_code
def yX2_rafterCode : MethodName := ⟨RX2, "rafterCode", "(IJ)I"⟩
abbrev cX2_rafter : ByteArray := prog_4_method_19_code
def yX2_rafter : MethodName := ⟨RX2, "rafter", "(IJ)I"⟩
abbrev cX2_ends : ByteArray := prog_4_method_20_code
def yX2_ends : MethodName := ⟨RX2, "ends", "(IIJ)Z"⟩
abbrev cX2_ending : ByteArray := prog_4_method_21_code
def yX2_ending : MethodName := ⟨RX2, "ending", "(IJ)I"⟩
abbrev cX2_end : ByteArray := prog_4_method_22_code
def yX2_end : MethodName := ⟨RX2, "end", "(IJI)J"⟩
abbrev cX2_against : ByteArray := prog_4_method_23_code
def yX2_against : MethodName := ⟨RX2, "against", "(IJ)I"⟩
abbrev cX2_length : ByteArray := prog_4_method_24_code
def yX2_length : MethodName := ⟨RX2, "length", "(IJI)J"⟩
abbrev cX2_tangent : ByteArray := prog_4_method_25_code
def yX2_tangent : MethodName := ⟨RX2, "tangent", "(IJII)J"⟩
abbrev cX2_mouth : ByteArray := prog_4_method_26_code
def yX2_mouth : MethodName := ⟨RX2, "mouth", "(IJI)J"⟩
abbrev cX2_top : ByteArray := prog_4_method_27_code
def yX2_top : MethodName := ⟨RX2, "top", "(I)Z"⟩
abbrev cX2_makePeak : ByteArray := prog_4_method_28_code
def yX2_makePeak : MethodName := ⟨RX2, "makePeak", "()V"⟩
abbrev cX2_peak : ByteArray := prog_4_method_29_code
def yX2_peak : MethodName := ⟨RX2, "peak", "(I)J"⟩
abbrev cX2_makeFar : ByteArray := prog_4_method_30_code
def yX2_makeFar : MethodName := ⟨RX2, "makeFar", "(I)V"⟩
abbrev cX2_ridge : ByteArray := prog_4_method_31_code
def yX2_ridge : MethodName := ⟨RX2, "ridge", "(II)J"⟩
abbrev cX2_hip : ByteArray := prog_4_method_32_code
def yX2_hip : MethodName := ⟨RX2, "hip", "(III)J"⟩
abbrev cX2_area : ByteArray := prog_4_method_33_code
def yX2_area : MethodName := ⟨RX2, "area", "(II)J"⟩
abbrev cX2_batten : ByteArray := prog_4_method_34_code
def yX2_batten : MethodName := ⟨RX2, "batten", "(IJ)I"⟩
def RJx00060 : String := "java/lang/ArrayIndexOutOfBoundsException"
def TJx00060 : u_T := fun k => match k with
  | 0 => ("java/lang/Throwable", "cause", "Ljava/lang/Throwable;", false)
  | 1 => ("java/lang/Throwable", "stackTrace", "[Ljava/lang/StackTraceElement;", false)
  | 2 => ("java/lang/Throwable", "suppressedExceptions", "Ljava/util/List;", false)
  | 3 => ("java/lang/Throwable", "detailMessage", "Ljava/lang/String;", false)
  | 4 => ("java/lang/Throwable", "backtrace", "Ljava/lang/Object;", false)
  | _ => ("java/lang/Throwable", "depth", "I", false)
def tyJx00060 : Nat → FieldType := fun k => match k with
  | 0 => .object "java/lang/Throwable"
  | 1 => .array (.object "java/lang/StackTraceElement")
  | 2 => .object "java/util/List"
  | 3 => .object "java/lang/String"
  | 4 => .object "java/lang/Object"
  | _ => .int
abbrev wsJx000600 : List Cond := u_ws RJx00060 TJx00060 6
theorem nmJx00060 : ∀ a, a < 6 → ∀ b, b < 6 → a ≠ b → (TJx00060 a).2.1 ≠ (TJx00060 b).2.1 := by decide +kernel
theorem tyJx00060_ok : ∀ k, k < 6 → parseFieldDescriptor (TJx00060 k).2.2.1 = some (tyJx00060 k) := by decide +kernel
abbrev cJx00060_init_a7421 : ByteArray := prog_5_method_2_code
def yJx00060_init_a7421 : MethodName := ⟨RJx00060, "<init>", "(Ljava/lang/String;)V"⟩
def RJ0 : String := "java/lang/String"
def TJ0 : u_T := fun k => match k with
  | _ => ("", "", "", false)
def tyJ0 : Nat → FieldType := fun k => match k with
  | _ => .int
abbrev wsJ00 : List Cond := u_ws RJ0 TJ0 0
theorem nmJ0 : ∀ a, a < 0 → ∀ b, b < 0 → a ≠ b → (TJ0 a).2.1 ≠ (TJ0 b).2.1 := by decide +kernel
theorem tyJ0_ok : ∀ k, k < 0 → parseFieldDescriptor (TJ0 k).2.2.1 = some (tyJ0 k) := by decide +kernel
def RL : String := "RafterPlacesLaw"
abbrev cL_outline : ByteArray := method_3_code
def yL_outline : MethodName := ⟨RL, "outline", "(LRafterPlaces;JJ[J)I"⟩
abbrev cL_slope : ByteArray := method_4_code
def yL_slope : MethodName := ⟨RL, "slope", "(LRafterPlaces;IJJ[J)I"⟩
abbrev cL_gable : ByteArray := method_5_code
def yL_gable : MethodName := ⟨RL, "gable", "(LRafterPlaces;I[J)I"⟩
abbrev cL_place : ByteArray := method_6_code
def yL_place : MethodName := ⟨RL, "place", "(LRafterPlaces;JJI[J)I"⟩
abbrev cL_face : ByteArray := method_7_code
def yL_face : MethodName := ⟨RL, "face", "(LRafterPlaces;JJ[J)I"⟩
abbrev cL_rafter : ByteArray := method_8_code
def yL_rafter : MethodName := ⟨RL, "rafter", "(LRafterPlaces;IJ[J)I"⟩
abbrev cL_end : ByteArray := method_9_code
def yL_end : MethodName := ⟨RL, "end", "(LRafterPlaces;IJI[J)I"⟩
abbrev cL_against : ByteArray := method_10_code
def yL_against : MethodName := ⟨RL, "against", "(LRafterPlaces;IJ[J)I"⟩
abbrev cL_length : ByteArray := method_11_code
def yL_length : MethodName := ⟨RL, "length", "(LRafterPlaces;IJI[J)I"⟩
abbrev cL_tangent : ByteArray := method_12_code
def yL_tangent : MethodName := ⟨RL, "tangent", "(LRafterPlaces;IJII[J)I"⟩
abbrev cL_mouth : ByteArray := method_13_code
def yL_mouth : MethodName := ⟨RL, "mouth", "(LRafterPlaces;IJI[J)I"⟩
abbrev cL_hip : ByteArray := method_14_code
def yL_hip : MethodName := ⟨RL, "hip", "(LRafterPlaces;III[J)I"⟩
abbrev cL_peak : ByteArray := method_15_code
def yL_peak : MethodName := ⟨RL, "peak", "(LRafterPlaces;I[J)I"⟩
abbrev cL_ridge : ByteArray := method_16_code
def yL_ridge : MethodName := ⟨RL, "ridge", "(LRafterPlaces;II[J)I"⟩
abbrev cL_area : ByteArray := method_17_code
def yL_area : MethodName := ⟨RL, "area", "(LRafterPlaces;II[J)I"⟩
abbrev cL_batten : ByteArray := method_18_code
def yL_batten : MethodName := ⟨RL, "batten", "(LRafterPlaces;IJ[J)I"⟩
abbrev cL_law : ByteArray := code
def yL_law : MethodName := ⟨RL, "law", "([I)Z"⟩
end
section
theorem dX0_init_0 : decode cX0_init 0 = .ok (.aload_n 0, 1) := by decide +kernel
theorem dX0_init_1 : decode cX0_init 1 = .ok (.invokespecial 1, 3) := by decide +kernel
theorem dX0_init_4 : decode cX0_init 4 = .ok (.lload_n 1, 1) := by decide +kernel
theorem dX0_init_5 : decode cX0_init 5 = .ok (.lload_n 3, 1) := by decide +kernel
theorem dX0_init_6 : decode cX0_init 6 = .ok (.invokestatic 7, 3) := by decide +kernel
theorem dX0_init_9 : decode cX0_init 9 = .ok (.lstore 5, 2) := by decide +kernel
theorem dX0_init_11 : decode cX0_init 11 = .ok (.lload_n 3, 1) := by decide +kernel
theorem dX0_init_12 : decode cX0_init 12 = .ok (.lload 5, 2) := by decide +kernel
theorem dX0_init_14 : decode cX0_init 14 = .ok (.ldiv, 1) := by decide +kernel
theorem dX0_init_15 : decode cX0_init 15 = .ok (.lstore 7, 2) := by decide +kernel
theorem dX0_init_17 : decode cX0_init 17 = .ok (.aload_n 0, 1) := by decide +kernel
theorem dX0_init_18 : decode cX0_init 18 = .ok (.lload_n 1, 1) := by decide +kernel
theorem dX0_init_19 : decode cX0_init 19 = .ok (.lload 5, 2) := by decide +kernel
theorem dX0_init_21 : decode cX0_init 21 = .ok (.ldiv, 1) := by decide +kernel
theorem dX0_init_22 : decode cX0_init 22 = .ok (.putfield 13, 3) := by decide +kernel
theorem dX0_init_25 : decode cX0_init 25 = .ok (.aload_n 0, 1) := by decide +kernel
theorem dX0_init_26 : decode cX0_init 26 = .ok (.lload 7, 2) := by decide +kernel
theorem dX0_init_28 : decode cX0_init 28 = .ok (.lconst 0, 1) := by decide +kernel
theorem dX0_init_29 : decode cX0_init 29 = .ok (.lcmp, 1) := by decide +kernel
theorem dX0_init_30 : decode cX0_init 30 = .ok (.ifCond .le 8, 3) := by decide +kernel
theorem dX0_init_33 : decode cX0_init 33 = .ok (.lload 7, 2) := by decide +kernel
theorem dX0_init_35 : decode cX0_init 35 = .ok (.goto 4, 3) := by decide +kernel
theorem dX0_init_38 : decode cX0_init 38 = .ok (.lconst 1, 1) := by decide +kernel
theorem dX0_init_39 : decode cX0_init 39 = .ok (.putfield 17, 3) := by decide +kernel
theorem dX0_init_42 : decode cX0_init 42 = .ok (.return_, 1) := by decide +kernel
theorem dX0_commonDivisor_0 : decode cX0_commonDivisor 0 = .ok (.lload_n 0, 1) := by decide +kernel
theorem dX0_commonDivisor_1 : decode cX0_commonDivisor 1 = .ok (.lstore 4, 2) := by decide +kernel
theorem dX0_commonDivisor_3 : decode cX0_commonDivisor 3 = .ok (.lload_n 2, 1) := by decide +kernel
theorem dX0_commonDivisor_4 : decode cX0_commonDivisor 4 = .ok (.lstore 6, 2) := by decide +kernel
theorem dX0_commonDivisor_6 : decode cX0_commonDivisor 6 = .ok (.iconst 0, 1) := by decide +kernel
theorem dX0_commonDivisor_7 : decode cX0_commonDivisor 7 = .ok (.istore 8, 2) := by decide +kernel
theorem dX0_commonDivisor_9 : decode cX0_commonDivisor 9 = .ok (.iload 8, 2) := by decide +kernel
theorem dX0_commonDivisor_11 : decode cX0_commonDivisor 11 = .ok (.bipush 100, 2) := by decide +kernel
theorem dX0_commonDivisor_13 : decode cX0_commonDivisor 13 = .ok (.if_icmp .ge 31, 3) := by decide +kernel
theorem dX0_commonDivisor_16 : decode cX0_commonDivisor 16 = .ok (.lload 6, 2) := by decide +kernel
theorem dX0_commonDivisor_18 : decode cX0_commonDivisor 18 = .ok (.lconst 0, 1) := by decide +kernel
theorem dX0_commonDivisor_19 : decode cX0_commonDivisor 19 = .ok (.lcmp, 1) := by decide +kernel
theorem dX0_commonDivisor_20 : decode cX0_commonDivisor 20 = .ok (.ifCond .eq 24, 3) := by decide +kernel
theorem dX0_commonDivisor_23 : decode cX0_commonDivisor 23 = .ok (.lload 4, 2) := by decide +kernel
theorem dX0_commonDivisor_25 : decode cX0_commonDivisor 25 = .ok (.lload 6, 2) := by decide +kernel
theorem dX0_commonDivisor_27 : decode cX0_commonDivisor 27 = .ok (.lrem, 1) := by decide +kernel
theorem dX0_commonDivisor_28 : decode cX0_commonDivisor 28 = .ok (.lstore 9, 2) := by decide +kernel
theorem dX0_commonDivisor_30 : decode cX0_commonDivisor 30 = .ok (.lload 6, 2) := by decide +kernel
theorem dX0_commonDivisor_32 : decode cX0_commonDivisor 32 = .ok (.lstore 4, 2) := by decide +kernel
theorem dX0_commonDivisor_34 : decode cX0_commonDivisor 34 = .ok (.lload 9, 2) := by decide +kernel
theorem dX0_commonDivisor_36 : decode cX0_commonDivisor 36 = .ok (.lstore 6, 2) := by decide +kernel
theorem dX0_commonDivisor_38 : decode cX0_commonDivisor 38 = .ok (.iinc 8 1, 3) := by decide +kernel
theorem dX0_commonDivisor_41 : decode cX0_commonDivisor 41 = .ok (.goto (-32), 3) := by decide +kernel
theorem dX0_commonDivisor_44 : decode cX0_commonDivisor 44 = .ok (.lload 4, 2) := by decide +kernel
theorem dX0_commonDivisor_46 : decode cX0_commonDivisor 46 = .ok (.lconst 0, 1) := by decide +kernel
theorem dX0_commonDivisor_47 : decode cX0_commonDivisor 47 = .ok (.lcmp, 1) := by decide +kernel
theorem dX0_commonDivisor_48 : decode cX0_commonDivisor 48 = .ok (.ifCond .le 8, 3) := by decide +kernel
theorem dX0_commonDivisor_51 : decode cX0_commonDivisor 51 = .ok (.lload 4, 2) := by decide +kernel
theorem dX0_commonDivisor_53 : decode cX0_commonDivisor 53 = .ok (.goto 4, 3) := by decide +kernel
theorem dX0_commonDivisor_56 : decode cX0_commonDivisor 56 = .ok (.lconst 1, 1) := by decide +kernel
theorem dX0_commonDivisor_57 : decode cX0_commonDivisor 57 = .ok (.lreturn, 1) := by decide +kernel
theorem dX0_part_0 : decode cX0_part 0 = .ok (.iload_n 1, 1) := by decide +kernel
theorem dX0_part_1 : decode cX0_part 1 = .ok (.ifCond .ne 10, 3) := by decide +kernel
theorem dX0_part_4 : decode cX0_part 4 = .ok (.aload_n 0, 1) := by decide +kernel
theorem dX0_part_5 : decode cX0_part 5 = .ok (.getfield 13, 3) := by decide +kernel
theorem dX0_part_8 : decode cX0_part 8 = .ok (.goto 7, 3) := by decide +kernel
theorem dX0_part_11 : decode cX0_part 11 = .ok (.aload_n 0, 1) := by decide +kernel
theorem dX0_part_12 : decode cX0_part 12 = .ok (.getfield 17, 3) := by decide +kernel
theorem dX0_part_15 : decode cX0_part 15 = .ok (.lreturn, 1) := by decide +kernel
theorem dX0_cutOff_0 : decode cX0_cutOff 0 = .ok (.aload_n 0, 1) := by decide +kernel
theorem dX0_cutOff_1 : decode cX0_cutOff 1 = .ok (.getfield 13, 3) := by decide +kernel
theorem dX0_cutOff_4 : decode cX0_cutOff 4 = .ok (.aload_n 0, 1) := by decide +kernel
theorem dX0_cutOff_5 : decode cX0_cutOff 5 = .ok (.getfield 17, 3) := by decide +kernel
theorem dX0_cutOff_8 : decode cX0_cutOff 8 = .ok (.ldiv, 1) := by decide +kernel
theorem dX0_cutOff_9 : decode cX0_cutOff 9 = .ok (.lreturn, 1) := by decide +kernel
theorem dX0_isLess_0 : decode cX0_isLess 0 = .ok (.aload_n 0, 1) := by decide +kernel
theorem dX0_isLess_1 : decode cX0_isLess 1 = .ok (.getfield 13, 3) := by decide +kernel
theorem dX0_isLess_4 : decode cX0_isLess 4 = .ok (.aload_n 1, 1) := by decide +kernel
theorem dX0_isLess_5 : decode cX0_isLess 5 = .ok (.getfield 17, 3) := by decide +kernel
theorem dX0_isLess_8 : decode cX0_isLess 8 = .ok (.lmul, 1) := by decide +kernel
theorem dX0_isLess_9 : decode cX0_isLess 9 = .ok (.aload_n 1, 1) := by decide +kernel
theorem dX0_isLess_10 : decode cX0_isLess 10 = .ok (.getfield 13, 3) := by decide +kernel
theorem dX0_isLess_13 : decode cX0_isLess 13 = .ok (.aload_n 0, 1) := by decide +kernel
theorem dX0_isLess_14 : decode cX0_isLess 14 = .ok (.getfield 17, 3) := by decide +kernel
theorem dX0_isLess_17 : decode cX0_isLess 17 = .ok (.lmul, 1) := by decide +kernel
theorem dX0_isLess_18 : decode cX0_isLess 18 = .ok (.lcmp, 1) := by decide +kernel
theorem dX0_isLess_19 : decode cX0_isLess 19 = .ok (.ifCond .ge 7, 3) := by decide +kernel
theorem dX0_isLess_22 : decode cX0_isLess 22 = .ok (.iconst 1, 1) := by decide +kernel
theorem dX0_isLess_23 : decode cX0_isLess 23 = .ok (.goto 4, 3) := by decide +kernel
theorem dX0_isLess_26 : decode cX0_isLess 26 = .ok (.iconst 0, 1) := by decide +kernel
theorem dX0_isLess_27 : decode cX0_isLess 27 = .ok (.ireturn, 1) := by decide +kernel
theorem dX0_isSame_0 : decode cX0_isSame 0 = .ok (.aload_n 0, 1) := by decide +kernel
theorem dX0_isSame_1 : decode cX0_isSame 1 = .ok (.getfield 13, 3) := by decide +kernel
theorem dX0_isSame_4 : decode cX0_isSame 4 = .ok (.aload_n 1, 1) := by decide +kernel
theorem dX0_isSame_5 : decode cX0_isSame 5 = .ok (.getfield 13, 3) := by decide +kernel
theorem dX0_isSame_8 : decode cX0_isSame 8 = .ok (.lcmp, 1) := by decide +kernel
theorem dX0_isSame_9 : decode cX0_isSame 9 = .ok (.ifCond .ne 19, 3) := by decide +kernel
theorem dX0_isSame_12 : decode cX0_isSame 12 = .ok (.aload_n 0, 1) := by decide +kernel
theorem dX0_isSame_13 : decode cX0_isSame 13 = .ok (.getfield 17, 3) := by decide +kernel
theorem dX0_isSame_16 : decode cX0_isSame 16 = .ok (.aload_n 1, 1) := by decide +kernel
theorem dX0_isSame_17 : decode cX0_isSame 17 = .ok (.getfield 17, 3) := by decide +kernel
theorem dX0_isSame_20 : decode cX0_isSame 20 = .ok (.lcmp, 1) := by decide +kernel
theorem dX0_isSame_21 : decode cX0_isSame 21 = .ok (.ifCond .ne 7, 3) := by decide +kernel
theorem dX0_isSame_24 : decode cX0_isSame 24 = .ok (.iconst 1, 1) := by decide +kernel
theorem dX0_isSame_25 : decode cX0_isSame 25 = .ok (.goto 4, 3) := by decide +kernel
theorem dX0_isSame_28 : decode cX0_isSame 28 = .ok (.iconst 0, 1) := by decide +kernel
theorem dX0_isSame_29 : decode cX0_isSame 29 = .ok (.ireturn, 1) := by decide +kernel
theorem dX0_plus_0 : decode cX0_plus 0 = .ok (.new 8, 3) := by decide +kernel
theorem dX0_plus_3 : decode cX0_plus 3 = .ok (.dup, 1) := by decide +kernel
theorem dX0_plus_4 : decode cX0_plus 4 = .ok (.aload_n 0, 1) := by decide +kernel
theorem dX0_plus_5 : decode cX0_plus 5 = .ok (.getfield 13, 3) := by decide +kernel
theorem dX0_plus_8 : decode cX0_plus 8 = .ok (.aload_n 1, 1) := by decide +kernel
theorem dX0_plus_9 : decode cX0_plus 9 = .ok (.getfield 17, 3) := by decide +kernel
theorem dX0_plus_12 : decode cX0_plus 12 = .ok (.lmul, 1) := by decide +kernel
theorem dX0_plus_13 : decode cX0_plus 13 = .ok (.aload_n 1, 1) := by decide +kernel
theorem dX0_plus_14 : decode cX0_plus 14 = .ok (.getfield 13, 3) := by decide +kernel
theorem dX0_plus_17 : decode cX0_plus 17 = .ok (.aload_n 0, 1) := by decide +kernel
theorem dX0_plus_18 : decode cX0_plus 18 = .ok (.getfield 17, 3) := by decide +kernel
theorem dX0_plus_21 : decode cX0_plus 21 = .ok (.lmul, 1) := by decide +kernel
theorem dX0_plus_22 : decode cX0_plus 22 = .ok (.ladd, 1) := by decide +kernel
theorem dX0_plus_23 : decode cX0_plus 23 = .ok (.aload_n 0, 1) := by decide +kernel
theorem dX0_plus_24 : decode cX0_plus 24 = .ok (.getfield 17, 3) := by decide +kernel
theorem dX0_plus_27 : decode cX0_plus 27 = .ok (.aload_n 1, 1) := by decide +kernel
theorem dX0_plus_28 : decode cX0_plus 28 = .ok (.getfield 17, 3) := by decide +kernel
theorem dX0_plus_31 : decode cX0_plus 31 = .ok (.lmul, 1) := by decide +kernel
theorem dX0_plus_32 : decode cX0_plus 32 = .ok (.invokespecial 20, 3) := by decide +kernel
theorem dX0_plus_35 : decode cX0_plus 35 = .ok (.areturn, 1) := by decide +kernel
theorem dX0_takenFrom_0 : decode cX0_takenFrom 0 = .ok (.new 8, 3) := by decide +kernel
theorem dX0_takenFrom_3 : decode cX0_takenFrom 3 = .ok (.dup, 1) := by decide +kernel
theorem dX0_takenFrom_4 : decode cX0_takenFrom 4 = .ok (.lload_n 1, 1) := by decide +kernel
theorem dX0_takenFrom_5 : decode cX0_takenFrom 5 = .ok (.aload_n 0, 1) := by decide +kernel
theorem dX0_takenFrom_6 : decode cX0_takenFrom 6 = .ok (.getfield 17, 3) := by decide +kernel
theorem dX0_takenFrom_9 : decode cX0_takenFrom 9 = .ok (.lmul, 1) := by decide +kernel
theorem dX0_takenFrom_10 : decode cX0_takenFrom 10 = .ok (.aload_n 0, 1) := by decide +kernel
theorem dX0_takenFrom_11 : decode cX0_takenFrom 11 = .ok (.getfield 13, 3) := by decide +kernel
theorem dX0_takenFrom_14 : decode cX0_takenFrom 14 = .ok (.lsub, 1) := by decide +kernel
theorem dX0_takenFrom_15 : decode cX0_takenFrom 15 = .ok (.aload_n 0, 1) := by decide +kernel
theorem dX0_takenFrom_16 : decode cX0_takenFrom 16 = .ok (.getfield 17, 3) := by decide +kernel
theorem dX0_takenFrom_19 : decode cX0_takenFrom 19 = .ok (.invokespecial 20, 3) := by decide +kernel
theorem dX0_takenFrom_22 : decode cX0_takenFrom 22 = .ok (.areturn, 1) := by decide +kernel
theorem dX0_times_0 : decode cX0_times 0 = .ok (.new 8, 3) := by decide +kernel
theorem dX0_times_3 : decode cX0_times 3 = .ok (.dup, 1) := by decide +kernel
theorem dX0_times_4 : decode cX0_times 4 = .ok (.aload_n 0, 1) := by decide +kernel
theorem dX0_times_5 : decode cX0_times 5 = .ok (.getfield 13, 3) := by decide +kernel
theorem dX0_times_8 : decode cX0_times 8 = .ok (.aload_n 1, 1) := by decide +kernel
theorem dX0_times_9 : decode cX0_times 9 = .ok (.getfield 13, 3) := by decide +kernel
theorem dX0_times_12 : decode cX0_times 12 = .ok (.lmul, 1) := by decide +kernel
theorem dX0_times_13 : decode cX0_times 13 = .ok (.aload_n 0, 1) := by decide +kernel
theorem dX0_times_14 : decode cX0_times 14 = .ok (.getfield 17, 3) := by decide +kernel
theorem dX0_times_17 : decode cX0_times 17 = .ok (.aload_n 1, 1) := by decide +kernel
theorem dX0_times_18 : decode cX0_times 18 = .ok (.getfield 17, 3) := by decide +kernel
theorem dX0_times_21 : decode cX0_times 21 = .ok (.lmul, 1) := by decide +kernel
theorem dX0_times_22 : decode cX0_times 22 = .ok (.invokespecial 20, 3) := by decide +kernel
theorem dX0_times_25 : decode cX0_times 25 = .ok (.areturn, 1) := by decide +kernel
theorem dX0_times__0 : decode cX0_times_ 0 = .ok (.new 8, 3) := by decide +kernel
theorem dX0_times__3 : decode cX0_times_ 3 = .ok (.dup, 1) := by decide +kernel
theorem dX0_times__4 : decode cX0_times_ 4 = .ok (.aload_n 0, 1) := by decide +kernel
theorem dX0_times__5 : decode cX0_times_ 5 = .ok (.getfield 13, 3) := by decide +kernel
theorem dX0_times__8 : decode cX0_times_ 8 = .ok (.lload_n 1, 1) := by decide +kernel
theorem dX0_times__9 : decode cX0_times_ 9 = .ok (.lmul, 1) := by decide +kernel
theorem dX0_times__10 : decode cX0_times_ 10 = .ok (.aload_n 0, 1) := by decide +kernel
theorem dX0_times__11 : decode cX0_times_ 11 = .ok (.getfield 17, 3) := by decide +kernel
theorem dX0_times__14 : decode cX0_times_ 14 = .ok (.invokespecial 20, 3) := by decide +kernel
theorem dX0_times__17 : decode cX0_times_ 17 = .ok (.areturn, 1) := by decide +kernel
theorem dX0_inverse_0 : decode cX0_inverse 0 = .ok (.new 8, 3) := by decide +kernel
theorem dX0_inverse_3 : decode cX0_inverse 3 = .ok (.dup, 1) := by decide +kernel
theorem dX0_inverse_4 : decode cX0_inverse 4 = .ok (.aload_n 0, 1) := by decide +kernel
theorem dX0_inverse_5 : decode cX0_inverse 5 = .ok (.getfield 17, 3) := by decide +kernel
theorem dX0_inverse_8 : decode cX0_inverse 8 = .ok (.aload_n 0, 1) := by decide +kernel
theorem dX0_inverse_9 : decode cX0_inverse 9 = .ok (.getfield 13, 3) := by decide +kernel
theorem dX0_inverse_12 : decode cX0_inverse 12 = .ok (.invokespecial 20, 3) := by decide +kernel
theorem dX0_inverse_15 : decode cX0_inverse 15 = .ok (.areturn, 1) := by decide +kernel
theorem dX0_dividedBy_0 : decode cX0_dividedBy 0 = .ok (.new 8, 3) := by decide +kernel
theorem dX0_dividedBy_3 : decode cX0_dividedBy 3 = .ok (.dup, 1) := by decide +kernel
theorem dX0_dividedBy_4 : decode cX0_dividedBy 4 = .ok (.aload_n 0, 1) := by decide +kernel
theorem dX0_dividedBy_5 : decode cX0_dividedBy 5 = .ok (.getfield 13, 3) := by decide +kernel
theorem dX0_dividedBy_8 : decode cX0_dividedBy 8 = .ok (.aload_n 1, 1) := by decide +kernel
theorem dX0_dividedBy_9 : decode cX0_dividedBy 9 = .ok (.getfield 17, 3) := by decide +kernel
theorem dX0_dividedBy_12 : decode cX0_dividedBy 12 = .ok (.lmul, 1) := by decide +kernel
theorem dX0_dividedBy_13 : decode cX0_dividedBy 13 = .ok (.aload_n 0, 1) := by decide +kernel
theorem dX0_dividedBy_14 : decode cX0_dividedBy 14 = .ok (.getfield 17, 3) := by decide +kernel
theorem dX0_dividedBy_17 : decode cX0_dividedBy 17 = .ok (.aload_n 1, 1) := by decide +kernel
theorem dX0_dividedBy_18 : decode cX0_dividedBy 18 = .ok (.getfield 13, 3) := by decide +kernel
theorem dX0_dividedBy_21 : decode cX0_dividedBy 21 = .ok (.lmul, 1) := by decide +kernel
theorem dX0_dividedBy_22 : decode cX0_dividedBy 22 = .ok (.invokespecial 20, 3) := by decide +kernel
theorem dX0_dividedBy_25 : decode cX0_dividedBy 25 = .ok (.areturn, 1) := by decide +kernel
end
section
theorem dX1_init_0 : decode cX1_init 0 = .ok (.aload_n 0, 1) := by decide +kernel
theorem dX1_init_1 : decode cX1_init 1 = .ok (.invokespecial 1, 3) := by decide +kernel
theorem dX1_init_4 : decode cX1_init 4 = .ok (.aload_n 0, 1) := by decide +kernel
theorem dX1_init_5 : decode cX1_init 5 = .ok (.ldc2_w 7, 3) := by decide +kernel
theorem dX1_init_8 : decode cX1_init 8 = .ok (.putfield 9, 3) := by decide +kernel
theorem dX1_init_11 : decode cX1_init 11 = .ok (.aload_n 0, 1) := by decide +kernel
theorem dX1_init_12 : decode cX1_init 12 = .ok (.ldc2_w 15, 3) := by decide +kernel
theorem dX1_init_15 : decode cX1_init 15 = .ok (.putfield 17, 3) := by decide +kernel
theorem dX1_init_18 : decode cX1_init 18 = .ok (.aload_n 0, 1) := by decide +kernel
theorem dX1_init_19 : decode cX1_init 19 = .ok (.iconst 4, 1) := by decide +kernel
theorem dX1_init_20 : decode cX1_init 20 = .ok (.anewarray 20, 3) := by decide +kernel
theorem dX1_init_23 : decode cX1_init 23 = .ok (.putfield 22, 3) := by decide +kernel
theorem dX1_init_26 : decode cX1_init 26 = .ok (.iconst 0, 1) := by decide +kernel
theorem dX1_init_27 : decode cX1_init 27 = .ok (.istore_n 1, 1) := by decide +kernel
theorem dX1_init_28 : decode cX1_init 28 = .ok (.iload_n 1, 1) := by decide +kernel
theorem dX1_init_29 : decode cX1_init 29 = .ok (.iconst 4, 1) := by decide +kernel
theorem dX1_init_30 : decode cX1_init 30 = .ok (.if_icmp .ge 24, 3) := by decide +kernel
theorem dX1_init_33 : decode cX1_init 33 = .ok (.aload_n 0, 1) := by decide +kernel
theorem dX1_init_34 : decode cX1_init 34 = .ok (.getfield 22, 3) := by decide +kernel
theorem dX1_init_37 : decode cX1_init 37 = .ok (.iload_n 1, 1) := by decide +kernel
theorem dX1_init_38 : decode cX1_init 38 = .ok (.new 20, 3) := by decide +kernel
theorem dX1_init_41 : decode cX1_init 41 = .ok (.dup, 1) := by decide +kernel
theorem dX1_init_42 : decode cX1_init 42 = .ok (.lconst 1, 1) := by decide +kernel
theorem dX1_init_43 : decode cX1_init 43 = .ok (.lconst 1, 1) := by decide +kernel
theorem dX1_init_44 : decode cX1_init 44 = .ok (.invokespecial 26, 3) := by decide +kernel
theorem dX1_init_47 : decode cX1_init 47 = .ok (.aastore, 1) := by decide +kernel
theorem dX1_init_48 : decode cX1_init 48 = .ok (.iinc 1 1, 3) := by decide +kernel
theorem dX1_init_51 : decode cX1_init 51 = .ok (.goto (-23), 3) := by decide +kernel
theorem dX1_init_54 : decode cX1_init 54 = .ok (.return_, 1) := by decide +kernel
theorem dX1_outline_0 : decode cX1_outline 0 = .ok (.lload_n 1, 1) := by decide +kernel
theorem dX1_outline_1 : decode cX1_outline 1 = .ok (.lconst 1, 1) := by decide +kernel
theorem dX1_outline_2 : decode cX1_outline 2 = .ok (.ldc2_w 29, 3) := by decide +kernel
theorem dX1_outline_5 : decode cX1_outline 5 = .ok (.invokestatic 31, 3) := by decide +kernel
theorem dX1_outline_8 : decode cX1_outline 8 = .ok (.lload_n 3, 1) := by decide +kernel
theorem dX1_outline_9 : decode cX1_outline 9 = .ok (.lconst 1, 1) := by decide +kernel
theorem dX1_outline_10 : decode cX1_outline 10 = .ok (.ldc2_w 29, 3) := by decide +kernel
theorem dX1_outline_13 : decode cX1_outline 13 = .ok (.invokestatic 31, 3) := by decide +kernel
theorem dX1_outline_16 : decode cX1_outline 16 = .ok (.lload_n 1, 1) := by decide +kernel
theorem dX1_outline_17 : decode cX1_outline 17 = .ok (.aload_n 0, 1) := by decide +kernel
theorem dX1_outline_18 : decode cX1_outline 18 = .ok (.getfield 9, 3) := by decide +kernel
theorem dX1_outline_21 : decode cX1_outline 21 = .ok (.lcmp, 1) := by decide +kernel
theorem dX1_outline_22 : decode cX1_outline 22 = .ok (.ifCond .ne 12, 3) := by decide +kernel
theorem dX1_outline_25 : decode cX1_outline 25 = .ok (.lload_n 3, 1) := by decide +kernel
theorem dX1_outline_26 : decode cX1_outline 26 = .ok (.aload_n 0, 1) := by decide +kernel
theorem dX1_outline_27 : decode cX1_outline 27 = .ok (.getfield 17, 3) := by decide +kernel
theorem dX1_outline_30 : decode cX1_outline 30 = .ok (.lcmp, 1) := by decide +kernel
theorem dX1_outline_31 : decode cX1_outline 31 = .ok (.ifCond .eq 7, 3) := by decide +kernel
theorem dX1_outline_34 : decode cX1_outline 34 = .ok (.iconst 1, 1) := by decide +kernel
theorem dX1_outline_35 : decode cX1_outline 35 = .ok (.goto 4, 3) := by decide +kernel
theorem dX1_outline_38 : decode cX1_outline 38 = .ok (.iconst 0, 1) := by decide +kernel
theorem dX1_outline_39 : decode cX1_outline 39 = .ok (.istore 5, 2) := by decide +kernel
theorem dX1_outline_41 : decode cX1_outline 41 = .ok (.aload_n 0, 1) := by decide +kernel
theorem dX1_outline_42 : decode cX1_outline 42 = .ok (.lload_n 1, 1) := by decide +kernel
theorem dX1_outline_43 : decode cX1_outline 43 = .ok (.putfield 9, 3) := by decide +kernel
theorem dX1_outline_46 : decode cX1_outline 46 = .ok (.aload_n 0, 1) := by decide +kernel
theorem dX1_outline_47 : decode cX1_outline 47 = .ok (.lload_n 3, 1) := by decide +kernel
theorem dX1_outline_48 : decode cX1_outline 48 = .ok (.putfield 17, 3) := by decide +kernel
theorem dX1_outline_51 : decode cX1_outline 51 = .ok (.iload 5, 2) := by decide +kernel
theorem dX1_outline_53 : decode cX1_outline 53 = .ok (.ireturn, 1) := by decide +kernel
theorem dX1_slope_0 : decode cX1_slope 0 = .ok (.iload_n 1, 1) := by decide +kernel
theorem dX1_slope_1 : decode cX1_slope 1 = .ok (.iconst 4, 1) := by decide +kernel
theorem dX1_slope_2 : decode cX1_slope 2 = .ok (.invokestatic 35, 3) := by decide +kernel
theorem dX1_slope_5 : decode cX1_slope 5 = .ok (.lload_n 2, 1) := by decide +kernel
theorem dX1_slope_6 : decode cX1_slope 6 = .ok (.lconst 1, 1) := by decide +kernel
theorem dX1_slope_7 : decode cX1_slope 7 = .ok (.ldc2_w 39, 3) := by decide +kernel
theorem dX1_slope_10 : decode cX1_slope 10 = .ok (.invokestatic 31, 3) := by decide +kernel
theorem dX1_slope_13 : decode cX1_slope 13 = .ok (.lload 4, 2) := by decide +kernel
theorem dX1_slope_15 : decode cX1_slope 15 = .ok (.lconst 1, 1) := by decide +kernel
theorem dX1_slope_16 : decode cX1_slope 16 = .ok (.ldc2_w 39, 3) := by decide +kernel
theorem dX1_slope_19 : decode cX1_slope 19 = .ok (.invokestatic 31, 3) := by decide +kernel
theorem dX1_slope_22 : decode cX1_slope 22 = .ok (.aload_n 0, 1) := by decide +kernel
theorem dX1_slope_23 : decode cX1_slope 23 = .ok (.iload_n 1, 1) := by decide +kernel
theorem dX1_slope_24 : decode cX1_slope 24 = .ok (.new 20, 3) := by decide +kernel
theorem dX1_slope_27 : decode cX1_slope 27 = .ok (.dup, 1) := by decide +kernel
theorem dX1_slope_28 : decode cX1_slope 28 = .ok (.lload 4, 2) := by decide +kernel
theorem dX1_slope_30 : decode cX1_slope 30 = .ok (.lload_n 2, 1) := by decide +kernel
theorem dX1_slope_31 : decode cX1_slope 31 = .ok (.invokespecial 26, 3) := by decide +kernel
theorem dX1_slope_34 : decode cX1_slope 34 = .ok (.invokevirtual 41, 3) := by decide +kernel
theorem dX1_slope_37 : decode cX1_slope 37 = .ok (.ireturn, 1) := by decide +kernel
theorem dX1_gable_0 : decode cX1_gable 0 = .ok (.iload_n 1, 1) := by decide +kernel
theorem dX1_gable_1 : decode cX1_gable 1 = .ok (.iconst 4, 1) := by decide +kernel
theorem dX1_gable_2 : decode cX1_gable 2 = .ok (.invokestatic 35, 3) := by decide +kernel
theorem dX1_gable_5 : decode cX1_gable 5 = .ok (.aload_n 0, 1) := by decide +kernel
theorem dX1_gable_6 : decode cX1_gable 6 = .ok (.iload_n 1, 1) := by decide +kernel
theorem dX1_gable_7 : decode cX1_gable 7 = .ok (.invokevirtual 45, 3) := by decide +kernel
theorem dX1_gable_10 : decode cX1_gable 10 = .ok (.aload_n 0, 1) := by decide +kernel
theorem dX1_gable_11 : decode cX1_gable 11 = .ok (.iload_n 1, 1) := by decide +kernel
theorem dX1_gable_12 : decode cX1_gable 12 = .ok (.new 20, 3) := by decide +kernel
theorem dX1_gable_15 : decode cX1_gable 15 = .ok (.dup, 1) := by decide +kernel
theorem dX1_gable_16 : decode cX1_gable 16 = .ok (.lconst 0, 1) := by decide +kernel
theorem dX1_gable_17 : decode cX1_gable 17 = .ok (.lconst 1, 1) := by decide +kernel
theorem dX1_gable_18 : decode cX1_gable 18 = .ok (.invokespecial 26, 3) := by decide +kernel
theorem dX1_gable_21 : decode cX1_gable 21 = .ok (.invokevirtual 41, 3) := by decide +kernel
theorem dX1_gable_24 : decode cX1_gable 24 = .ok (.ireturn, 1) := by decide +kernel
theorem dX1_place_0 : decode cX1_place 0 = .ok (.iload 5, 2) := by decide +kernel
theorem dX1_place_2 : decode cX1_place 2 = .ok (.iconst 2, 1) := by decide +kernel
theorem dX1_place_3 : decode cX1_place 3 = .ok (.invokestatic 35, 3) := by decide +kernel
theorem dX1_place_6 : decode cX1_place 6 = .ok (.aload_n 0, 1) := by decide +kernel
theorem dX1_place_7 : decode cX1_place 7 = .ok (.lload_n 1, 1) := by decide +kernel
theorem dX1_place_8 : decode cX1_place 8 = .ok (.lload_n 3, 1) := by decide +kernel
theorem dX1_place_9 : decode cX1_place 9 = .ok (.invokevirtual 49, 3) := by decide +kernel
theorem dX1_place_12 : decode cX1_place 12 = .ok (.aload_n 0, 1) := by decide +kernel
theorem dX1_place_13 : decode cX1_place 13 = .ok (.aload_n 0, 1) := by decide +kernel
theorem dX1_place_14 : decode cX1_place 14 = .ok (.lload_n 1, 1) := by decide +kernel
theorem dX1_place_15 : decode cX1_place 15 = .ok (.lload_n 3, 1) := by decide +kernel
theorem dX1_place_16 : decode cX1_place 16 = .ok (.invokevirtual 52, 3) := by decide +kernel
theorem dX1_place_19 : decode cX1_place 19 = .ok (.lload_n 1, 1) := by decide +kernel
theorem dX1_place_20 : decode cX1_place 20 = .ok (.lload_n 3, 1) := by decide +kernel
theorem dX1_place_21 : decode cX1_place 21 = .ok (.invokevirtual 56, 3) := by decide +kernel
theorem dX1_place_24 : decode cX1_place 24 = .ok (.iload 5, 2) := by decide +kernel
theorem dX1_place_26 : decode cX1_place 26 = .ok (.invokevirtual 60, 3) := by decide +kernel
theorem dX1_place_29 : decode cX1_place 29 = .ok (.lreturn, 1) := by decide +kernel
theorem dX1_face_0 : decode cX1_face 0 = .ok (.aload_n 0, 1) := by decide +kernel
theorem dX1_face_1 : decode cX1_face 1 = .ok (.lload_n 1, 1) := by decide +kernel
theorem dX1_face_2 : decode cX1_face 2 = .ok (.lload_n 3, 1) := by decide +kernel
theorem dX1_face_3 : decode cX1_face 3 = .ok (.invokevirtual 49, 3) := by decide +kernel
theorem dX1_face_6 : decode cX1_face 6 = .ok (.aload_n 0, 1) := by decide +kernel
theorem dX1_face_7 : decode cX1_face 7 = .ok (.lload_n 1, 1) := by decide +kernel
theorem dX1_face_8 : decode cX1_face 8 = .ok (.lload_n 3, 1) := by decide +kernel
theorem dX1_face_9 : decode cX1_face 9 = .ok (.invokevirtual 52, 3) := by decide +kernel
theorem dX1_face_12 : decode cX1_face 12 = .ok (.ireturn, 1) := by decide +kernel
theorem dX1_rafter_0 : decode cX1_rafter 0 = .ok (.iload_n 1, 1) := by decide +kernel
theorem dX1_rafter_1 : decode cX1_rafter 1 = .ok (.iconst 4, 1) := by decide +kernel
theorem dX1_rafter_2 : decode cX1_rafter 2 = .ok (.invokestatic 35, 3) := by decide +kernel
theorem dX1_rafter_5 : decode cX1_rafter 5 = .ok (.aload_n 0, 1) := by decide +kernel
theorem dX1_rafter_6 : decode cX1_rafter 6 = .ok (.iload_n 1, 1) := by decide +kernel
theorem dX1_rafter_7 : decode cX1_rafter 7 = .ok (.invokevirtual 64, 3) := by decide +kernel
theorem dX1_rafter_10 : decode cX1_rafter 10 = .ok (.lload_n 2, 1) := by decide +kernel
theorem dX1_rafter_11 : decode cX1_rafter 11 = .ok (.lconst 1, 1) := by decide +kernel
theorem dX1_rafter_12 : decode cX1_rafter 12 = .ok (.ldc2_w 67, 3) := by decide +kernel
theorem dX1_rafter_15 : decode cX1_rafter 15 = .ok (.invokestatic 31, 3) := by decide +kernel
theorem dX1_rafter_18 : decode cX1_rafter 18 = .ok (.aload_n 0, 1) := by decide +kernel
theorem dX1_rafter_19 : decode cX1_rafter 19 = .ok (.iload_n 1, 1) := by decide +kernel
theorem dX1_rafter_20 : decode cX1_rafter 20 = .ok (.invokevirtual 69, 3) := by decide +kernel
theorem dX1_rafter_23 : decode cX1_rafter 23 = .ok (.lload_n 2, 1) := by decide +kernel
theorem dX1_rafter_24 : decode cX1_rafter 24 = .ok (.ldiv, 1) := by decide +kernel
theorem dX1_rafter_25 : decode cX1_rafter 25 = .ok (.l2i, 1) := by decide +kernel
theorem dX1_rafter_26 : decode cX1_rafter 26 = .ok (.iconst 1, 1) := by decide +kernel
theorem dX1_rafter_27 : decode cX1_rafter 27 = .ok (.iadd, 1) := by decide +kernel
theorem dX1_rafter_28 : decode cX1_rafter 28 = .ok (.ireturn, 1) := by decide +kernel
theorem dX1_end_0 : decode cX1_end 0 = .ok (.iload_n 1, 1) := by decide +kernel
theorem dX1_end_1 : decode cX1_end 1 = .ok (.iconst 4, 1) := by decide +kernel
theorem dX1_end_2 : decode cX1_end 2 = .ok (.invokestatic 35, 3) := by decide +kernel
theorem dX1_end_5 : decode cX1_end 5 = .ok (.iload 4, 2) := by decide +kernel
theorem dX1_end_7 : decode cX1_end 7 = .ok (.iconst 2, 1) := by decide +kernel
theorem dX1_end_8 : decode cX1_end 8 = .ok (.invokestatic 35, 3) := by decide +kernel
theorem dX1_end_11 : decode cX1_end 11 = .ok (.aload_n 0, 1) := by decide +kernel
theorem dX1_end_12 : decode cX1_end 12 = .ok (.iload_n 1, 1) := by decide +kernel
theorem dX1_end_13 : decode cX1_end 13 = .ok (.lload_n 2, 1) := by decide +kernel
theorem dX1_end_14 : decode cX1_end 14 = .ok (.invokevirtual 72, 3) := by decide +kernel
theorem dX1_end_17 : decode cX1_end 17 = .ok (.aload_n 0, 1) := by decide +kernel
theorem dX1_end_18 : decode cX1_end 18 = .ok (.iload_n 1, 1) := by decide +kernel
theorem dX1_end_19 : decode cX1_end 19 = .ok (.lload_n 2, 1) := by decide +kernel
theorem dX1_end_20 : decode cX1_end 20 = .ok (.invokevirtual 76, 3) := by decide +kernel
theorem dX1_end_23 : decode cX1_end 23 = .ok (.iload 4, 2) := by decide +kernel
theorem dX1_end_25 : decode cX1_end 25 = .ok (.invokevirtual 60, 3) := by decide +kernel
theorem dX1_end_28 : decode cX1_end 28 = .ok (.lreturn, 1) := by decide +kernel
theorem dX1_against_0 : decode cX1_against 0 = .ok (.iload_n 1, 1) := by decide +kernel
theorem dX1_against_1 : decode cX1_against 1 = .ok (.iconst 4, 1) := by decide +kernel
theorem dX1_against_2 : decode cX1_against 2 = .ok (.invokestatic 35, 3) := by decide +kernel
theorem dX1_against_5 : decode cX1_against 5 = .ok (.aload_n 0, 1) := by decide +kernel
theorem dX1_against_6 : decode cX1_against 6 = .ok (.iload_n 1, 1) := by decide +kernel
theorem dX1_against_7 : decode cX1_against 7 = .ok (.lload_n 2, 1) := by decide +kernel
theorem dX1_against_8 : decode cX1_against 8 = .ok (.invokevirtual 72, 3) := by decide +kernel
theorem dX1_against_11 : decode cX1_against 11 = .ok (.aload_n 0, 1) := by decide +kernel
theorem dX1_against_12 : decode cX1_against 12 = .ok (.iload_n 1, 1) := by decide +kernel
theorem dX1_against_13 : decode cX1_against 13 = .ok (.lload_n 2, 1) := by decide +kernel
theorem dX1_against_14 : decode cX1_against 14 = .ok (.invokevirtual 80, 3) := by decide +kernel
theorem dX1_against_17 : decode cX1_against 17 = .ok (.ireturn, 1) := by decide +kernel
theorem dX1_length_0 : decode cX1_length 0 = .ok (.iload_n 1, 1) := by decide +kernel
theorem dX1_length_1 : decode cX1_length 1 = .ok (.iconst 4, 1) := by decide +kernel
theorem dX1_length_2 : decode cX1_length 2 = .ok (.invokestatic 35, 3) := by decide +kernel
theorem dX1_length_5 : decode cX1_length 5 = .ok (.iload 4, 2) := by decide +kernel
theorem dX1_length_7 : decode cX1_length 7 = .ok (.iconst 2, 1) := by decide +kernel
theorem dX1_length_8 : decode cX1_length 8 = .ok (.invokestatic 35, 3) := by decide +kernel
theorem dX1_length_11 : decode cX1_length 11 = .ok (.aload_n 0, 1) := by decide +kernel
theorem dX1_length_12 : decode cX1_length 12 = .ok (.iload_n 1, 1) := by decide +kernel
theorem dX1_length_13 : decode cX1_length 13 = .ok (.lload_n 2, 1) := by decide +kernel
theorem dX1_length_14 : decode cX1_length 14 = .ok (.invokevirtual 72, 3) := by decide +kernel
theorem dX1_length_17 : decode cX1_length 17 = .ok (.aload_n 0, 1) := by decide +kernel
theorem dX1_length_18 : decode cX1_length 18 = .ok (.iload_n 1, 1) := by decide +kernel
theorem dX1_length_19 : decode cX1_length 19 = .ok (.aload_n 0, 1) := by decide +kernel
theorem dX1_length_20 : decode cX1_length 20 = .ok (.iload_n 1, 1) := by decide +kernel
theorem dX1_length_21 : decode cX1_length 21 = .ok (.lload_n 2, 1) := by decide +kernel
theorem dX1_length_22 : decode cX1_length 22 = .ok (.invokevirtual 76, 3) := by decide +kernel
theorem dX1_length_25 : decode cX1_length 25 = .ok (.invokevirtual 84, 3) := by decide +kernel
theorem dX1_length_28 : decode cX1_length 28 = .ok (.astore 5, 2) := by decide +kernel
theorem dX1_length_30 : decode cX1_length 30 = .ok (.aload 5, 2) := by decide +kernel
theorem dX1_length_32 : decode cX1_length 32 = .ok (.invokevirtual 88, 3) := by decide +kernel
theorem dX1_length_35 : decode cX1_length 35 = .ok (.invokestatic 92, 3) := by decide +kernel
theorem dX1_length_38 : decode cX1_length 38 = .ok (.lstore 6, 2) := by decide +kernel
theorem dX1_length_40 : decode cX1_length 40 = .ok (.lload 6, 2) := by decide +kernel
theorem dX1_length_42 : decode cX1_length 42 = .ok (.lload 6, 2) := by decide +kernel
theorem dX1_length_44 : decode cX1_length 44 = .ok (.lmul, 1) := by decide +kernel
theorem dX1_length_45 : decode cX1_length 45 = .ok (.aload 5, 2) := by decide +kernel
theorem dX1_length_47 : decode cX1_length 47 = .ok (.getfield 96, 3) := by decide +kernel
theorem dX1_length_50 : decode cX1_length 50 = .ok (.lmul, 1) := by decide +kernel
theorem dX1_length_51 : decode cX1_length 51 = .ok (.aload 5, 2) := by decide +kernel
theorem dX1_length_53 : decode cX1_length 53 = .ok (.getfield 99, 3) := by decide +kernel
theorem dX1_length_56 : decode cX1_length 56 = .ok (.lcmp, 1) := by decide +kernel
theorem dX1_length_57 : decode cX1_length 57 = .ok (.ifCond .ne 7, 3) := by decide +kernel
theorem dX1_length_60 : decode cX1_length 60 = .ok (.iconst 1, 1) := by decide +kernel
theorem dX1_length_61 : decode cX1_length 61 = .ok (.goto 4, 3) := by decide +kernel
theorem dX1_length_64 : decode cX1_length 64 = .ok (.iconst 0, 1) := by decide +kernel
theorem dX1_length_65 : decode cX1_length 65 = .ok (.istore 8, 2) := by decide +kernel
theorem dX1_length_67 : decode cX1_length 67 = .ok (.iload 4, 2) := by decide +kernel
theorem dX1_length_69 : decode cX1_length 69 = .ok (.ifCond .eq 8, 3) := by decide +kernel
theorem dX1_length_72 : decode cX1_length 72 = .ok (.iload 8, 2) := by decide +kernel
theorem dX1_length_74 : decode cX1_length 74 = .ok (.ifCond .eq 8, 3) := by decide +kernel
theorem dX1_length_77 : decode cX1_length 77 = .ok (.lload 6, 2) := by decide +kernel
theorem dX1_length_79 : decode cX1_length 79 = .ok (.goto 7, 3) := by decide +kernel
theorem dX1_length_82 : decode cX1_length 82 = .ok (.lload 6, 2) := by decide +kernel
theorem dX1_length_84 : decode cX1_length 84 = .ok (.lconst 1, 1) := by decide +kernel
theorem dX1_length_85 : decode cX1_length 85 = .ok (.ladd, 1) := by decide +kernel
theorem dX1_length_86 : decode cX1_length 86 = .ok (.lreturn, 1) := by decide +kernel
theorem dX1_tangent_0 : decode cX1_tangent 0 = .ok (.iload_n 1, 1) := by decide +kernel
theorem dX1_tangent_1 : decode cX1_tangent 1 = .ok (.iconst 4, 1) := by decide +kernel
theorem dX1_tangent_2 : decode cX1_tangent 2 = .ok (.invokestatic 35, 3) := by decide +kernel
theorem dX1_tangent_5 : decode cX1_tangent 5 = .ok (.iload 4, 2) := by decide +kernel
theorem dX1_tangent_7 : decode cX1_tangent 7 = .ok (.iconst 3, 1) := by decide +kernel
theorem dX1_tangent_8 : decode cX1_tangent 8 = .ok (.invokestatic 35, 3) := by decide +kernel
theorem dX1_tangent_11 : decode cX1_tangent 11 = .ok (.iload 5, 2) := by decide +kernel
theorem dX1_tangent_13 : decode cX1_tangent 13 = .ok (.iconst 2, 1) := by decide +kernel
theorem dX1_tangent_14 : decode cX1_tangent 14 = .ok (.invokestatic 35, 3) := by decide +kernel
theorem dX1_tangent_17 : decode cX1_tangent 17 = .ok (.aload_n 0, 1) := by decide +kernel
theorem dX1_tangent_18 : decode cX1_tangent 18 = .ok (.iload_n 1, 1) := by decide +kernel
theorem dX1_tangent_19 : decode cX1_tangent 19 = .ok (.lload_n 2, 1) := by decide +kernel
theorem dX1_tangent_20 : decode cX1_tangent 20 = .ok (.invokevirtual 72, 3) := by decide +kernel
theorem dX1_tangent_23 : decode cX1_tangent 23 = .ok (.aload_n 0, 1) := by decide +kernel
theorem dX1_tangent_24 : decode cX1_tangent 24 = .ok (.iload_n 1, 1) := by decide +kernel
theorem dX1_tangent_25 : decode cX1_tangent 25 = .ok (.lload_n 2, 1) := by decide +kernel
theorem dX1_tangent_26 : decode cX1_tangent 26 = .ok (.iload 4, 2) := by decide +kernel
theorem dX1_tangent_28 : decode cX1_tangent 28 = .ok (.invokevirtual 102, 3) := by decide +kernel
theorem dX1_tangent_31 : decode cX1_tangent 31 = .ok (.iload 5, 2) := by decide +kernel
theorem dX1_tangent_33 : decode cX1_tangent 33 = .ok (.invokevirtual 60, 3) := by decide +kernel
theorem dX1_tangent_36 : decode cX1_tangent 36 = .ok (.lreturn, 1) := by decide +kernel
theorem dX1_mouth_0 : decode cX1_mouth 0 = .ok (.iload_n 1, 1) := by decide +kernel
theorem dX1_mouth_1 : decode cX1_mouth 1 = .ok (.iconst 4, 1) := by decide +kernel
theorem dX1_mouth_2 : decode cX1_mouth 2 = .ok (.invokestatic 35, 3) := by decide +kernel
theorem dX1_mouth_5 : decode cX1_mouth 5 = .ok (.iload 4, 2) := by decide +kernel
theorem dX1_mouth_7 : decode cX1_mouth 7 = .ok (.iconst 2, 1) := by decide +kernel
theorem dX1_mouth_8 : decode cX1_mouth 8 = .ok (.invokestatic 35, 3) := by decide +kernel
theorem dX1_mouth_11 : decode cX1_mouth 11 = .ok (.aload_n 0, 1) := by decide +kernel
theorem dX1_mouth_12 : decode cX1_mouth 12 = .ok (.iload_n 1, 1) := by decide +kernel
theorem dX1_mouth_13 : decode cX1_mouth 13 = .ok (.invokevirtual 64, 3) := by decide +kernel
theorem dX1_mouth_16 : decode cX1_mouth 16 = .ok (.lload_n 2, 1) := by decide +kernel
theorem dX1_mouth_17 : decode cX1_mouth 17 = .ok (.lconst 0, 1) := by decide +kernel
theorem dX1_mouth_18 : decode cX1_mouth 18 = .ok (.ldc2_w 7, 3) := by decide +kernel
theorem dX1_mouth_21 : decode cX1_mouth 21 = .ok (.invokestatic 31, 3) := by decide +kernel
theorem dX1_mouth_24 : decode cX1_mouth 24 = .ok (.aload_n 0, 1) := by decide +kernel
theorem dX1_mouth_25 : decode cX1_mouth 25 = .ok (.getfield 22, 3) := by decide +kernel
theorem dX1_mouth_28 : decode cX1_mouth 28 = .ok (.iload_n 1, 1) := by decide +kernel
theorem dX1_mouth_29 : decode cX1_mouth 29 = .ok (.aaload, 1) := by decide +kernel
theorem dX1_mouth_30 : decode cX1_mouth 30 = .ok (.lload_n 2, 1) := by decide +kernel
theorem dX1_mouth_31 : decode cX1_mouth 31 = .ok (.invokevirtual 106, 3) := by decide +kernel
theorem dX1_mouth_34 : decode cX1_mouth 34 = .ok (.iload 4, 2) := by decide +kernel
theorem dX1_mouth_36 : decode cX1_mouth 36 = .ok (.invokevirtual 60, 3) := by decide +kernel
theorem dX1_mouth_39 : decode cX1_mouth 39 = .ok (.lreturn, 1) := by decide +kernel
theorem dX1_hip_0 : decode cX1_hip 0 = .ok (.iload_n 1, 1) := by decide +kernel
theorem dX1_hip_1 : decode cX1_hip 1 = .ok (.iconst 4, 1) := by decide +kernel
theorem dX1_hip_2 : decode cX1_hip 2 = .ok (.invokestatic 35, 3) := by decide +kernel
theorem dX1_hip_5 : decode cX1_hip 5 = .ok (.iload_n 2, 1) := by decide +kernel
theorem dX1_hip_6 : decode cX1_hip 6 = .ok (.iconst 2, 1) := by decide +kernel
theorem dX1_hip_7 : decode cX1_hip 7 = .ok (.invokestatic 35, 3) := by decide +kernel
theorem dX1_hip_10 : decode cX1_hip 10 = .ok (.iload_n 3, 1) := by decide +kernel
theorem dX1_hip_11 : decode cX1_hip 11 = .ok (.iconst 2, 1) := by decide +kernel
theorem dX1_hip_12 : decode cX1_hip 12 = .ok (.invokestatic 35, 3) := by decide +kernel
theorem dX1_hip_15 : decode cX1_hip 15 = .ok (.iload_n 1, 1) := by decide +kernel
theorem dX1_hip_16 : decode cX1_hip 16 = .ok (.invokestatic 110, 3) := by decide +kernel
theorem dX1_hip_19 : decode cX1_hip 19 = .ok (.istore 4, 2) := by decide +kernel
theorem dX1_hip_21 : decode cX1_hip 21 = .ok (.aload_n 0, 1) := by decide +kernel
theorem dX1_hip_22 : decode cX1_hip 22 = .ok (.iload_n 1, 1) := by decide +kernel
theorem dX1_hip_23 : decode cX1_hip 23 = .ok (.invokevirtual 64, 3) := by decide +kernel
theorem dX1_hip_26 : decode cX1_hip 26 = .ok (.aload_n 0, 1) := by decide +kernel
theorem dX1_hip_27 : decode cX1_hip 27 = .ok (.iload 4, 2) := by decide +kernel
theorem dX1_hip_29 : decode cX1_hip 29 = .ok (.invokevirtual 64, 3) := by decide +kernel
theorem dX1_hip_32 : decode cX1_hip 32 = .ok (.aload_n 0, 1) := by decide +kernel
theorem dX1_hip_33 : decode cX1_hip 33 = .ok (.iload_n 2, 1) := by decide +kernel
theorem dX1_hip_34 : decode cX1_hip 34 = .ok (.ifCond .ne 7, 3) := by decide +kernel
theorem dX1_hip_37 : decode cX1_hip 37 = .ok (.iload_n 1, 1) := by decide +kernel
theorem dX1_hip_38 : decode cX1_hip 38 = .ok (.goto 5, 3) := by decide +kernel
theorem dX1_hip_41 : decode cX1_hip 41 = .ok (.iload 4, 2) := by decide +kernel
theorem dX1_hip_43 : decode cX1_hip 43 = .ok (.invokevirtual 114, 3) := by decide +kernel
theorem dX1_hip_46 : decode cX1_hip 46 = .ok (.iload_n 3, 1) := by decide +kernel
theorem dX1_hip_47 : decode cX1_hip 47 = .ok (.invokevirtual 60, 3) := by decide +kernel
theorem dX1_hip_50 : decode cX1_hip 50 = .ok (.lreturn, 1) := by decide +kernel
theorem dX1_peak_0 : decode cX1_peak 0 = .ok (.iload_n 1, 1) := by decide +kernel
theorem dX1_peak_1 : decode cX1_peak 1 = .ok (.iconst 2, 1) := by decide +kernel
theorem dX1_peak_2 : decode cX1_peak 2 = .ok (.invokestatic 35, 3) := by decide +kernel
theorem dX1_peak_5 : decode cX1_peak 5 = .ok (.aload_n 0, 1) := by decide +kernel
theorem dX1_peak_6 : decode cX1_peak 6 = .ok (.invokevirtual 118, 3) := by decide +kernel
theorem dX1_peak_9 : decode cX1_peak 9 = .ok (.iload_n 1, 1) := by decide +kernel
theorem dX1_peak_10 : decode cX1_peak 10 = .ok (.invokevirtual 60, 3) := by decide +kernel
theorem dX1_peak_13 : decode cX1_peak 13 = .ok (.lreturn, 1) := by decide +kernel
theorem dX1_ridge_0 : decode cX1_ridge 0 = .ok (.iload_n 1, 1) := by decide +kernel
theorem dX1_ridge_1 : decode cX1_ridge 1 = .ok (.iconst 4, 1) := by decide +kernel
theorem dX1_ridge_2 : decode cX1_ridge 2 = .ok (.invokestatic 35, 3) := by decide +kernel
theorem dX1_ridge_5 : decode cX1_ridge 5 = .ok (.iload_n 2, 1) := by decide +kernel
theorem dX1_ridge_6 : decode cX1_ridge 6 = .ok (.iconst 2, 1) := by decide +kernel
theorem dX1_ridge_7 : decode cX1_ridge 7 = .ok (.invokestatic 35, 3) := by decide +kernel
theorem dX1_ridge_10 : decode cX1_ridge 10 = .ok (.aload_n 0, 1) := by decide +kernel
theorem dX1_ridge_11 : decode cX1_ridge 11 = .ok (.iload_n 1, 1) := by decide +kernel
theorem dX1_ridge_12 : decode cX1_ridge 12 = .ok (.invokevirtual 122, 3) := by decide +kernel
theorem dX1_ridge_15 : decode cX1_ridge 15 = .ok (.iload_n 2, 1) := by decide +kernel
theorem dX1_ridge_16 : decode cX1_ridge 16 = .ok (.invokevirtual 60, 3) := by decide +kernel
theorem dX1_ridge_19 : decode cX1_ridge 19 = .ok (.lreturn, 1) := by decide +kernel
theorem dX1_area_0 : decode cX1_area 0 = .ok (.iload_n 1, 1) := by decide +kernel
theorem dX1_area_1 : decode cX1_area 1 = .ok (.iconst 4, 1) := by decide +kernel
theorem dX1_area_2 : decode cX1_area 2 = .ok (.invokestatic 35, 3) := by decide +kernel
theorem dX1_area_5 : decode cX1_area 5 = .ok (.iload_n 2, 1) := by decide +kernel
theorem dX1_area_6 : decode cX1_area 6 = .ok (.iconst 2, 1) := by decide +kernel
theorem dX1_area_7 : decode cX1_area 7 = .ok (.invokestatic 35, 3) := by decide +kernel
theorem dX1_area_10 : decode cX1_area 10 = .ok (.aload_n 0, 1) := by decide +kernel
theorem dX1_area_11 : decode cX1_area 11 = .ok (.iload_n 1, 1) := by decide +kernel
theorem dX1_area_12 : decode cX1_area 12 = .ok (.invokevirtual 64, 3) := by decide +kernel
theorem dX1_area_15 : decode cX1_area 15 = .ok (.aload_n 0, 1) := by decide +kernel
theorem dX1_area_16 : decode cX1_area 16 = .ok (.iload_n 1, 1) := by decide +kernel
theorem dX1_area_17 : decode cX1_area 17 = .ok (.invokevirtual 125, 3) := by decide +kernel
theorem dX1_area_20 : decode cX1_area 20 = .ok (.iload_n 2, 1) := by decide +kernel
theorem dX1_area_21 : decode cX1_area 21 = .ok (.invokevirtual 60, 3) := by decide +kernel
theorem dX1_area_24 : decode cX1_area 24 = .ok (.lreturn, 1) := by decide +kernel
theorem dX1_batten_0 : decode cX1_batten 0 = .ok (.iload_n 1, 1) := by decide +kernel
theorem dX1_batten_1 : decode cX1_batten 1 = .ok (.iconst 4, 1) := by decide +kernel
theorem dX1_batten_2 : decode cX1_batten 2 = .ok (.invokestatic 35, 3) := by decide +kernel
theorem dX1_batten_5 : decode cX1_batten 5 = .ok (.aload_n 0, 1) := by decide +kernel
theorem dX1_batten_6 : decode cX1_batten 6 = .ok (.iload_n 1, 1) := by decide +kernel
theorem dX1_batten_7 : decode cX1_batten 7 = .ok (.invokevirtual 64, 3) := by decide +kernel
theorem dX1_batten_10 : decode cX1_batten 10 = .ok (.lload_n 2, 1) := by decide +kernel
theorem dX1_batten_11 : decode cX1_batten 11 = .ok (.lconst 1, 1) := by decide +kernel
theorem dX1_batten_12 : decode cX1_batten 12 = .ok (.ldc2_w 67, 3) := by decide +kernel
theorem dX1_batten_15 : decode cX1_batten 15 = .ok (.invokestatic 31, 3) := by decide +kernel
theorem dX1_batten_18 : decode cX1_batten 18 = .ok (.aload_n 0, 1) := by decide +kernel
theorem dX1_batten_19 : decode cX1_batten 19 = .ok (.iload_n 1, 1) := by decide +kernel
theorem dX1_batten_20 : decode cX1_batten 20 = .ok (.aload_n 0, 1) := by decide +kernel
theorem dX1_batten_21 : decode cX1_batten 21 = .ok (.iload_n 1, 1) := by decide +kernel
theorem dX1_batten_22 : decode cX1_batten 22 = .ok (.invokevirtual 114, 3) := by decide +kernel
theorem dX1_batten_25 : decode cX1_batten 25 = .ok (.invokevirtual 84, 3) := by decide +kernel
theorem dX1_batten_28 : decode cX1_batten 28 = .ok (.invokevirtual 88, 3) := by decide +kernel
theorem dX1_batten_31 : decode cX1_batten 31 = .ok (.invokestatic 92, 3) := by decide +kernel
theorem dX1_batten_34 : decode cX1_batten 34 = .ok (.lstore 4, 2) := by decide +kernel
theorem dX1_batten_36 : decode cX1_batten 36 = .ok (.lload 4, 2) := by decide +kernel
theorem dX1_batten_38 : decode cX1_batten 38 = .ok (.lload_n 2, 1) := by decide +kernel
theorem dX1_batten_39 : decode cX1_batten 39 = .ok (.ldiv, 1) := by decide +kernel
theorem dX1_batten_40 : decode cX1_batten 40 = .ok (.l2i, 1) := by decide +kernel
theorem dX1_batten_41 : decode cX1_batten 41 = .ok (.ireturn, 1) := by decide +kernel
theorem dX1_checkIndex_0 : decode cX1_checkIndex 0 = .ok (.iload_n 0, 1) := by decide +kernel
theorem dX1_checkIndex_1 : decode cX1_checkIndex 1 = .ok (.ifCond .lt 8, 3) := by decide +kernel
theorem dX1_checkIndex_4 : decode cX1_checkIndex 4 = .ok (.iload_n 0, 1) := by decide +kernel
theorem dX1_checkIndex_5 : decode cX1_checkIndex 5 = .ok (.iload_n 1, 1) := by decide +kernel
theorem dX1_checkIndex_6 : decode cX1_checkIndex 6 = .ok (.if_icmp .lt 13, 3) := by decide +kernel
theorem dX1_checkIndex_9 : decode cX1_checkIndex 9 = .ok (.new 128, 3) := by decide +kernel
theorem dX1_checkIndex_12 : decode cX1_checkIndex 12 = .ok (.dup, 1) := by decide +kernel
theorem dX1_checkIndex_13 : decode cX1_checkIndex 13 = .ok (.ldc 130, 2) := by decide +kernel
theorem dX1_checkIndex_15 : decode cX1_checkIndex 15 = .ok (.invokespecial 132, 3) := by decide +kernel
theorem dX1_checkIndex_18 : decode cX1_checkIndex 18 = .ok (.athrow, 1) := by decide +kernel
theorem dX1_checkIndex_19 : decode cX1_checkIndex 19 = .ok (.return_, 1) := by decide +kernel
theorem dX1_checkNumber_0 : decode cX1_checkNumber 0 = .ok (.lload_n 0, 1) := by decide +kernel
theorem dX1_checkNumber_1 : decode cX1_checkNumber 1 = .ok (.lload_n 2, 1) := by decide +kernel
theorem dX1_checkNumber_2 : decode cX1_checkNumber 2 = .ok (.lcmp, 1) := by decide +kernel
theorem dX1_checkNumber_3 : decode cX1_checkNumber 3 = .ok (.ifCond .lt 10, 3) := by decide +kernel
theorem dX1_checkNumber_6 : decode cX1_checkNumber 6 = .ok (.lload_n 0, 1) := by decide +kernel
theorem dX1_checkNumber_7 : decode cX1_checkNumber 7 = .ok (.lload 4, 2) := by decide +kernel
theorem dX1_checkNumber_9 : decode cX1_checkNumber 9 = .ok (.lcmp, 1) := by decide +kernel
theorem dX1_checkNumber_10 : decode cX1_checkNumber 10 = .ok (.ifCond .le 13, 3) := by decide +kernel
theorem dX1_checkNumber_13 : decode cX1_checkNumber 13 = .ok (.new 135, 3) := by decide +kernel
theorem dX1_checkNumber_16 : decode cX1_checkNumber 16 = .ok (.dup, 1) := by decide +kernel
theorem dX1_checkNumber_17 : decode cX1_checkNumber 17 = .ok (.ldc 137, 2) := by decide +kernel
theorem dX1_checkNumber_19 : decode cX1_checkNumber 19 = .ok (.invokespecial 139, 3) := by decide +kernel
theorem dX1_checkNumber_22 : decode cX1_checkNumber 22 = .ok (.athrow, 1) := by decide +kernel
theorem dX1_checkNumber_23 : decode cX1_checkNumber 23 = .ok (.return_, 1) := by decide +kernel
theorem dX1_checkNoGable_0 : decode cX1_checkNoGable 0 = .ok (.aload_n 0, 1) := by decide +kernel
theorem dX1_checkNoGable_1 : decode cX1_checkNoGable 1 = .ok (.iload_n 1, 1) := by decide +kernel
theorem dX1_checkNoGable_2 : decode cX1_checkNoGable 2 = .ok (.invokevirtual 140, 3) := by decide +kernel
theorem dX1_checkNoGable_5 : decode cX1_checkNoGable 5 = .ok (.ifCond .eq 13, 3) := by decide +kernel
theorem dX1_checkNoGable_8 : decode cX1_checkNoGable 8 = .ok (.new 144, 3) := by decide +kernel
theorem dX1_checkNoGable_11 : decode cX1_checkNoGable 11 = .ok (.dup, 1) := by decide +kernel
theorem dX1_checkNoGable_12 : decode cX1_checkNoGable 12 = .ok (.ldc 146, 2) := by decide +kernel
theorem dX1_checkNoGable_14 : decode cX1_checkNoGable 14 = .ok (.invokespecial 148, 3) := by decide +kernel
theorem dX1_checkNoGable_17 : decode cX1_checkNoGable 17 = .ok (.athrow, 1) := by decide +kernel
theorem dX1_checkNoGable_18 : decode cX1_checkNoGable 18 = .ok (.return_, 1) := by decide +kernel
theorem dX1_checkOthersAreNotAllGables_0 : decode cX1_checkOthersAreNotAllGables 0 = .ok (.iconst 0, 1) := by decide +kernel
theorem dX1_checkOthersAreNotAllGables_1 : decode cX1_checkOthersAreNotAllGables 1 = .ok (.istore_n 2, 1) := by decide +kernel
theorem dX1_checkOthersAreNotAllGables_2 : decode cX1_checkOthersAreNotAllGables 2 = .ok (.iload_n 2, 1) := by decide +kernel
theorem dX1_checkOthersAreNotAllGables_3 : decode cX1_checkOthersAreNotAllGables 3 = .ok (.iconst 4, 1) := by decide +kernel
theorem dX1_checkOthersAreNotAllGables_4 : decode cX1_checkOthersAreNotAllGables 4 = .ok (.if_icmp .ge 23, 3) := by decide +kernel
theorem dX1_checkOthersAreNotAllGables_7 : decode cX1_checkOthersAreNotAllGables 7 = .ok (.iload_n 2, 1) := by decide +kernel
theorem dX1_checkOthersAreNotAllGables_8 : decode cX1_checkOthersAreNotAllGables 8 = .ok (.iload_n 1, 1) := by decide +kernel
theorem dX1_checkOthersAreNotAllGables_9 : decode cX1_checkOthersAreNotAllGables 9 = .ok (.if_icmp .eq 12, 3) := by decide +kernel
theorem dX1_checkOthersAreNotAllGables_12 : decode cX1_checkOthersAreNotAllGables 12 = .ok (.aload_n 0, 1) := by decide +kernel
theorem dX1_checkOthersAreNotAllGables_13 : decode cX1_checkOthersAreNotAllGables 13 = .ok (.iload_n 2, 1) := by decide +kernel
theorem dX1_checkOthersAreNotAllGables_14 : decode cX1_checkOthersAreNotAllGables 14 = .ok (.invokevirtual 140, 3) := by decide +kernel
theorem dX1_checkOthersAreNotAllGables_17 : decode cX1_checkOthersAreNotAllGables 17 = .ok (.ifCond .ne 4, 3) := by decide +kernel
theorem dX1_checkOthersAreNotAllGables_20 : decode cX1_checkOthersAreNotAllGables 20 = .ok (.return_, 1) := by decide +kernel
theorem dX1_checkOthersAreNotAllGables_21 : decode cX1_checkOthersAreNotAllGables 21 = .ok (.iinc 2 1, 3) := by decide +kernel
theorem dX1_checkOthersAreNotAllGables_24 : decode cX1_checkOthersAreNotAllGables 24 = .ok (.goto (-22), 3) := by decide +kernel
theorem dX1_checkOthersAreNotAllGables_27 : decode cX1_checkOthersAreNotAllGables 27 = .ok (.new 144, 3) := by decide +kernel
theorem dX1_checkOthersAreNotAllGables_30 : decode cX1_checkOthersAreNotAllGables 30 = .ok (.dup, 1) := by decide +kernel
theorem dX1_checkOthersAreNotAllGables_31 : decode cX1_checkOthersAreNotAllGables 31 = .ok (.ldc 149, 2) := by decide +kernel
theorem dX1_checkOthersAreNotAllGables_33 : decode cX1_checkOthersAreNotAllGables 33 = .ok (.invokespecial 148, 3) := by decide +kernel
theorem dX1_checkOthersAreNotAllGables_36 : decode cX1_checkOthersAreNotAllGables 36 = .ok (.athrow, 1) := by decide +kernel
theorem dX1_checkInOutline_0 : decode cX1_checkInOutline 0 = .ok (.lload_n 1, 1) := by decide +kernel
theorem dX1_checkInOutline_1 : decode cX1_checkInOutline 1 = .ok (.lconst 0, 1) := by decide +kernel
theorem dX1_checkInOutline_2 : decode cX1_checkInOutline 2 = .ok (.aload_n 0, 1) := by decide +kernel
theorem dX1_checkInOutline_3 : decode cX1_checkInOutline 3 = .ok (.getfield 9, 3) := by decide +kernel
theorem dX1_checkInOutline_6 : decode cX1_checkInOutline 6 = .ok (.invokestatic 31, 3) := by decide +kernel
theorem dX1_checkInOutline_9 : decode cX1_checkInOutline 9 = .ok (.lload_n 3, 1) := by decide +kernel
theorem dX1_checkInOutline_10 : decode cX1_checkInOutline 10 = .ok (.lconst 0, 1) := by decide +kernel
theorem dX1_checkInOutline_11 : decode cX1_checkInOutline 11 = .ok (.aload_n 0, 1) := by decide +kernel
theorem dX1_checkInOutline_12 : decode cX1_checkInOutline 12 = .ok (.getfield 17, 3) := by decide +kernel
theorem dX1_checkInOutline_15 : decode cX1_checkInOutline 15 = .ok (.invokestatic 31, 3) := by decide +kernel
theorem dX1_checkInOutline_18 : decode cX1_checkInOutline 18 = .ok (.return_, 1) := by decide +kernel
theorem dX1_checkRafter_0 : decode cX1_checkRafter 0 = .ok (.aload_n 0, 1) := by decide +kernel
theorem dX1_checkRafter_1 : decode cX1_checkRafter 1 = .ok (.iload_n 1, 1) := by decide +kernel
theorem dX1_checkRafter_2 : decode cX1_checkRafter 2 = .ok (.invokevirtual 64, 3) := by decide +kernel
theorem dX1_checkRafter_5 : decode cX1_checkRafter 5 = .ok (.lload_n 2, 1) := by decide +kernel
theorem dX1_checkRafter_6 : decode cX1_checkRafter 6 = .ok (.lconst 0, 1) := by decide +kernel
theorem dX1_checkRafter_7 : decode cX1_checkRafter 7 = .ok (.aload_n 0, 1) := by decide +kernel
theorem dX1_checkRafter_8 : decode cX1_checkRafter 8 = .ok (.iload_n 1, 1) := by decide +kernel
theorem dX1_checkRafter_9 : decode cX1_checkRafter 9 = .ok (.invokevirtual 69, 3) := by decide +kernel
theorem dX1_checkRafter_12 : decode cX1_checkRafter 12 = .ok (.invokestatic 31, 3) := by decide +kernel
theorem dX1_checkRafter_15 : decode cX1_checkRafter 15 = .ok (.return_, 1) := by decide +kernel
theorem dX1_isGable_0 : decode cX1_isGable 0 = .ok (.aload_n 0, 1) := by decide +kernel
theorem dX1_isGable_1 : decode cX1_isGable 1 = .ok (.getfield 22, 3) := by decide +kernel
theorem dX1_isGable_4 : decode cX1_isGable 4 = .ok (.iload_n 1, 1) := by decide +kernel
theorem dX1_isGable_5 : decode cX1_isGable 5 = .ok (.aaload, 1) := by decide +kernel
theorem dX1_isGable_6 : decode cX1_isGable 6 = .ok (.getfield 99, 3) := by decide +kernel
theorem dX1_isGable_9 : decode cX1_isGable 9 = .ok (.lconst 0, 1) := by decide +kernel
theorem dX1_isGable_10 : decode cX1_isGable 10 = .ok (.lcmp, 1) := by decide +kernel
theorem dX1_isGable_11 : decode cX1_isGable 11 = .ok (.ifCond .ne 7, 3) := by decide +kernel
theorem dX1_isGable_14 : decode cX1_isGable 14 = .ok (.iconst 1, 1) := by decide +kernel
theorem dX1_isGable_15 : decode cX1_isGable 15 = .ok (.goto 4, 3) := by decide +kernel
theorem dX1_isGable_18 : decode cX1_isGable 18 = .ok (.iconst 0, 1) := by decide +kernel
theorem dX1_isGable_19 : decode cX1_isGable 19 = .ok (.ireturn, 1) := by decide +kernel
theorem dX1_changeRun_0 : decode cX1_changeRun 0 = .ok (.aload_n 2, 1) := by decide +kernel
theorem dX1_changeRun_1 : decode cX1_changeRun 1 = .ok (.aload_n 0, 1) := by decide +kernel
theorem dX1_changeRun_2 : decode cX1_changeRun 2 = .ok (.getfield 22, 3) := by decide +kernel
theorem dX1_changeRun_5 : decode cX1_changeRun 5 = .ok (.iload_n 1, 1) := by decide +kernel
theorem dX1_changeRun_6 : decode cX1_changeRun 6 = .ok (.aaload, 1) := by decide +kernel
theorem dX1_changeRun_7 : decode cX1_changeRun 7 = .ok (.invokevirtual 151, 3) := by decide +kernel
theorem dX1_changeRun_10 : decode cX1_changeRun 10 = .ok (.ifCond .ne 7, 3) := by decide +kernel
theorem dX1_changeRun_13 : decode cX1_changeRun 13 = .ok (.iconst 1, 1) := by decide +kernel
theorem dX1_changeRun_14 : decode cX1_changeRun 14 = .ok (.goto 4, 3) := by decide +kernel
theorem dX1_changeRun_17 : decode cX1_changeRun 17 = .ok (.iconst 0, 1) := by decide +kernel
theorem dX1_changeRun_18 : decode cX1_changeRun 18 = .ok (.istore_n 3, 1) := by decide +kernel
theorem dX1_changeRun_19 : decode cX1_changeRun 19 = .ok (.aload_n 0, 1) := by decide +kernel
theorem dX1_changeRun_20 : decode cX1_changeRun 20 = .ok (.getfield 22, 3) := by decide +kernel
theorem dX1_changeRun_23 : decode cX1_changeRun 23 = .ok (.iload_n 1, 1) := by decide +kernel
theorem dX1_changeRun_24 : decode cX1_changeRun 24 = .ok (.aload_n 2, 1) := by decide +kernel
theorem dX1_changeRun_25 : decode cX1_changeRun 25 = .ok (.aastore, 1) := by decide +kernel
theorem dX1_changeRun_26 : decode cX1_changeRun 26 = .ok (.iload_n 3, 1) := by decide +kernel
theorem dX1_changeRun_27 : decode cX1_changeRun 27 = .ok (.ireturn, 1) := by decide +kernel
theorem dX1_sideBehind_0 : decode cX1_sideBehind 0 = .ok (.iload_n 0, 1) := by decide +kernel
theorem dX1_sideBehind_1 : decode cX1_sideBehind 1 = .ok (.iconst 1, 1) := by decide +kernel
theorem dX1_sideBehind_2 : decode cX1_sideBehind 2 = .ok (.iadd, 1) := by decide +kernel
theorem dX1_sideBehind_3 : decode cX1_sideBehind 3 = .ok (.iconst 4, 1) := by decide +kernel
theorem dX1_sideBehind_4 : decode cX1_sideBehind 4 = .ok (.irem, 1) := by decide +kernel
theorem dX1_sideBehind_5 : decode cX1_sideBehind 5 = .ok (.ireturn, 1) := by decide +kernel
theorem dX1_opposite_0 : decode cX1_opposite 0 = .ok (.iload_n 0, 1) := by decide +kernel
theorem dX1_opposite_1 : decode cX1_opposite 1 = .ok (.iconst 2, 1) := by decide +kernel
theorem dX1_opposite_2 : decode cX1_opposite 2 = .ok (.iadd, 1) := by decide +kernel
theorem dX1_opposite_3 : decode cX1_opposite 3 = .ok (.iconst 4, 1) := by decide +kernel
theorem dX1_opposite_4 : decode cX1_opposite 4 = .ok (.irem, 1) := by decide +kernel
theorem dX1_opposite_5 : decode cX1_opposite 5 = .ok (.ireturn, 1) := by decide +kernel
theorem dX1_goesAlongX_0 : decode cX1_goesAlongX 0 = .ok (.iload_n 0, 1) := by decide +kernel
theorem dX1_goesAlongX_1 : decode cX1_goesAlongX 1 = .ok (.ifCond .eq 8, 3) := by decide +kernel
theorem dX1_goesAlongX_4 : decode cX1_goesAlongX 4 = .ok (.iload_n 0, 1) := by decide +kernel
theorem dX1_goesAlongX_5 : decode cX1_goesAlongX 5 = .ok (.iconst 2, 1) := by decide +kernel
theorem dX1_goesAlongX_6 : decode cX1_goesAlongX 6 = .ok (.if_icmp .ne 7, 3) := by decide +kernel
theorem dX1_goesAlongX_9 : decode cX1_goesAlongX 9 = .ok (.iconst 1, 1) := by decide +kernel
theorem dX1_goesAlongX_10 : decode cX1_goesAlongX 10 = .ok (.goto 4, 3) := by decide +kernel
theorem dX1_goesAlongX_13 : decode cX1_goesAlongX 13 = .ok (.iconst 0, 1) := by decide +kernel
theorem dX1_goesAlongX_14 : decode cX1_goesAlongX 14 = .ok (.ireturn, 1) := by decide +kernel
theorem dX1_sideLength_0 : decode cX1_sideLength 0 = .ok (.iload_n 1, 1) := by decide +kernel
theorem dX1_sideLength_1 : decode cX1_sideLength 1 = .ok (.invokestatic 155, 3) := by decide +kernel
theorem dX1_sideLength_4 : decode cX1_sideLength 4 = .ok (.ifCond .eq 10, 3) := by decide +kernel
theorem dX1_sideLength_7 : decode cX1_sideLength 7 = .ok (.aload_n 0, 1) := by decide +kernel
theorem dX1_sideLength_8 : decode cX1_sideLength 8 = .ok (.getfield 9, 3) := by decide +kernel
theorem dX1_sideLength_11 : decode cX1_sideLength 11 = .ok (.goto 7, 3) := by decide +kernel
theorem dX1_sideLength_14 : decode cX1_sideLength 14 = .ok (.aload_n 0, 1) := by decide +kernel
theorem dX1_sideLength_15 : decode cX1_sideLength 15 = .ok (.getfield 17, 3) := by decide +kernel
theorem dX1_sideLength_18 : decode cX1_sideLength 18 = .ok (.lreturn, 1) := by decide +kernel
theorem dX1_wayToOpposite_0 : decode cX1_wayToOpposite 0 = .ok (.iload_n 1, 1) := by decide +kernel
theorem dX1_wayToOpposite_1 : decode cX1_wayToOpposite 1 = .ok (.invokestatic 155, 3) := by decide +kernel
theorem dX1_wayToOpposite_4 : decode cX1_wayToOpposite 4 = .ok (.ifCond .eq 10, 3) := by decide +kernel
theorem dX1_wayToOpposite_7 : decode cX1_wayToOpposite 7 = .ok (.aload_n 0, 1) := by decide +kernel
theorem dX1_wayToOpposite_8 : decode cX1_wayToOpposite 8 = .ok (.getfield 17, 3) := by decide +kernel
theorem dX1_wayToOpposite_11 : decode cX1_wayToOpposite 11 = .ok (.goto 7, 3) := by decide +kernel
theorem dX1_wayToOpposite_14 : decode cX1_wayToOpposite 14 = .ok (.aload_n 0, 1) := by decide +kernel
theorem dX1_wayToOpposite_15 : decode cX1_wayToOpposite 15 = .ok (.getfield 9, 3) := by decide +kernel
theorem dX1_wayToOpposite_18 : decode cX1_wayToOpposite 18 = .ok (.lreturn, 1) := by decide +kernel
theorem dX1_distanceFrom_0 : decode cX1_distanceFrom 0 = .ok (.iload_n 1, 1) := by decide +kernel
theorem dX1_distanceFrom_1 : decode cX1_distanceFrom 1 = .ok (.tableswitch 45 0 2 #[27, 30, 37], 27) := by decide +kernel
theorem dX1_distanceFrom_28 : decode cX1_distanceFrom 28 = .ok (.lload 4, 2) := by decide +kernel
theorem dX1_distanceFrom_30 : decode cX1_distanceFrom 30 = .ok (.lreturn, 1) := by decide +kernel
theorem dX1_distanceFrom_31 : decode cX1_distanceFrom 31 = .ok (.aload_n 0, 1) := by decide +kernel
theorem dX1_distanceFrom_32 : decode cX1_distanceFrom 32 = .ok (.getfield 9, 3) := by decide +kernel
theorem dX1_distanceFrom_35 : decode cX1_distanceFrom 35 = .ok (.lload_n 2, 1) := by decide +kernel
theorem dX1_distanceFrom_36 : decode cX1_distanceFrom 36 = .ok (.lsub, 1) := by decide +kernel
theorem dX1_distanceFrom_37 : decode cX1_distanceFrom 37 = .ok (.lreturn, 1) := by decide +kernel
theorem dX1_distanceFrom_38 : decode cX1_distanceFrom 38 = .ok (.aload_n 0, 1) := by decide +kernel
theorem dX1_distanceFrom_39 : decode cX1_distanceFrom 39 = .ok (.getfield 17, 3) := by decide +kernel
theorem dX1_distanceFrom_42 : decode cX1_distanceFrom 42 = .ok (.lload 4, 2) := by decide +kernel
theorem dX1_distanceFrom_44 : decode cX1_distanceFrom 44 = .ok (.lsub, 1) := by decide +kernel
theorem dX1_distanceFrom_45 : decode cX1_distanceFrom 45 = .ok (.lreturn, 1) := by decide +kernel
theorem dX1_distanceFrom_46 : decode cX1_distanceFrom 46 = .ok (.lload_n 2, 1) := by decide +kernel
theorem dX1_distanceFrom_47 : decode cX1_distanceFrom 47 = .ok (.lreturn, 1) := by decide +kernel
theorem dX1_planeHeight_0 : decode cX1_planeHeight 0 = .ok (.new 20, 3) := by decide +kernel
theorem dX1_planeHeight_3 : decode cX1_planeHeight 3 = .ok (.dup, 1) := by decide +kernel
theorem dX1_planeHeight_4 : decode cX1_planeHeight 4 = .ok (.aload_n 0, 1) := by decide +kernel
theorem dX1_planeHeight_5 : decode cX1_planeHeight 5 = .ok (.getfield 22, 3) := by decide +kernel
theorem dX1_planeHeight_8 : decode cX1_planeHeight 8 = .ok (.iload_n 1, 1) := by decide +kernel
theorem dX1_planeHeight_9 : decode cX1_planeHeight 9 = .ok (.aaload, 1) := by decide +kernel
theorem dX1_planeHeight_10 : decode cX1_planeHeight 10 = .ok (.getfield 96, 3) := by decide +kernel
theorem dX1_planeHeight_13 : decode cX1_planeHeight 13 = .ok (.aload_n 0, 1) := by decide +kernel
theorem dX1_planeHeight_14 : decode cX1_planeHeight 14 = .ok (.iload_n 1, 1) := by decide +kernel
theorem dX1_planeHeight_15 : decode cX1_planeHeight 15 = .ok (.lload_n 2, 1) := by decide +kernel
theorem dX1_planeHeight_16 : decode cX1_planeHeight 16 = .ok (.lload 4, 2) := by decide +kernel
theorem dX1_planeHeight_18 : decode cX1_planeHeight 18 = .ok (.invokevirtual 158, 3) := by decide +kernel
theorem dX1_planeHeight_21 : decode cX1_planeHeight 21 = .ok (.lmul, 1) := by decide +kernel
theorem dX1_planeHeight_22 : decode cX1_planeHeight 22 = .ok (.aload_n 0, 1) := by decide +kernel
theorem dX1_planeHeight_23 : decode cX1_planeHeight 23 = .ok (.getfield 22, 3) := by decide +kernel
theorem dX1_planeHeight_26 : decode cX1_planeHeight 26 = .ok (.iload_n 1, 1) := by decide +kernel
theorem dX1_planeHeight_27 : decode cX1_planeHeight 27 = .ok (.aaload, 1) := by decide +kernel
theorem dX1_planeHeight_28 : decode cX1_planeHeight 28 = .ok (.getfield 99, 3) := by decide +kernel
theorem dX1_planeHeight_31 : decode cX1_planeHeight 31 = .ok (.invokespecial 26, 3) := by decide +kernel
theorem dX1_planeHeight_34 : decode cX1_planeHeight 34 = .ok (.areturn, 1) := by decide +kernel
theorem dX1_isLower_0 : decode cX1_isLower 0 = .ok (.aload_n 0, 1) := by decide +kernel
theorem dX1_isLower_1 : decode cX1_isLower 1 = .ok (.iload_n 1, 1) := by decide +kernel
theorem dX1_isLower_2 : decode cX1_isLower 2 = .ok (.lload_n 3, 1) := by decide +kernel
theorem dX1_isLower_3 : decode cX1_isLower 3 = .ok (.lload 5, 2) := by decide +kernel
theorem dX1_isLower_5 : decode cX1_isLower 5 = .ok (.invokevirtual 56, 3) := by decide +kernel
theorem dX1_isLower_8 : decode cX1_isLower 8 = .ok (.aload_n 0, 1) := by decide +kernel
theorem dX1_isLower_9 : decode cX1_isLower 9 = .ok (.iload_n 2, 1) := by decide +kernel
theorem dX1_isLower_10 : decode cX1_isLower 10 = .ok (.lload_n 3, 1) := by decide +kernel
theorem dX1_isLower_11 : decode cX1_isLower 11 = .ok (.lload 5, 2) := by decide +kernel
theorem dX1_isLower_13 : decode cX1_isLower 13 = .ok (.invokevirtual 56, 3) := by decide +kernel
theorem dX1_isLower_16 : decode cX1_isLower 16 = .ok (.invokevirtual 162, 3) := by decide +kernel
theorem dX1_isLower_19 : decode cX1_isLower 19 = .ok (.ireturn, 1) := by decide +kernel
theorem dX1_lowestSide_0 : decode cX1_lowestSide 0 = .ok (.iconst 0, 1) := by decide +kernel
theorem dX1_lowestSide_1 : decode cX1_lowestSide 1 = .ok (.istore 5, 2) := by decide +kernel
theorem dX1_lowestSide_3 : decode cX1_lowestSide 3 = .ok (.iconst 1, 1) := by decide +kernel
theorem dX1_lowestSide_4 : decode cX1_lowestSide 4 = .ok (.istore 6, 2) := by decide +kernel
theorem dX1_lowestSide_6 : decode cX1_lowestSide 6 = .ok (.iload 6, 2) := by decide +kernel
theorem dX1_lowestSide_8 : decode cX1_lowestSide 8 = .ok (.iconst 4, 1) := by decide +kernel
theorem dX1_lowestSide_9 : decode cX1_lowestSide 9 = .ok (.if_icmp .ge 44, 3) := by decide +kernel
theorem dX1_lowestSide_12 : decode cX1_lowestSide 12 = .ok (.aload_n 0, 1) := by decide +kernel
theorem dX1_lowestSide_13 : decode cX1_lowestSide 13 = .ok (.iload 6, 2) := by decide +kernel
theorem dX1_lowestSide_15 : decode cX1_lowestSide 15 = .ok (.invokevirtual 140, 3) := by decide +kernel
theorem dX1_lowestSide_18 : decode cX1_lowestSide 18 = .ok (.ifCond .ne 29, 3) := by decide +kernel
theorem dX1_lowestSide_21 : decode cX1_lowestSide 21 = .ok (.aload_n 0, 1) := by decide +kernel
theorem dX1_lowestSide_22 : decode cX1_lowestSide 22 = .ok (.iload 5, 2) := by decide +kernel
theorem dX1_lowestSide_24 : decode cX1_lowestSide 24 = .ok (.invokevirtual 140, 3) := by decide +kernel
theorem dX1_lowestSide_27 : decode cX1_lowestSide 27 = .ok (.ifCond .ne 16, 3) := by decide +kernel
theorem dX1_lowestSide_30 : decode cX1_lowestSide 30 = .ok (.aload_n 0, 1) := by decide +kernel
theorem dX1_lowestSide_31 : decode cX1_lowestSide 31 = .ok (.iload 6, 2) := by decide +kernel
theorem dX1_lowestSide_33 : decode cX1_lowestSide 33 = .ok (.iload 5, 2) := by decide +kernel
theorem dX1_lowestSide_35 : decode cX1_lowestSide 35 = .ok (.lload_n 1, 1) := by decide +kernel
theorem dX1_lowestSide_36 : decode cX1_lowestSide 36 = .ok (.lload_n 3, 1) := by decide +kernel
theorem dX1_lowestSide_37 : decode cX1_lowestSide 37 = .ok (.invokevirtual 165, 3) := by decide +kernel
theorem dX1_lowestSide_40 : decode cX1_lowestSide 40 = .ok (.ifCond .eq 7, 3) := by decide +kernel
theorem dX1_lowestSide_43 : decode cX1_lowestSide 43 = .ok (.iload 6, 2) := by decide +kernel
theorem dX1_lowestSide_45 : decode cX1_lowestSide 45 = .ok (.istore 5, 2) := by decide +kernel
theorem dX1_lowestSide_47 : decode cX1_lowestSide 47 = .ok (.iinc 6 1, 3) := by decide +kernel
theorem dX1_lowestSide_50 : decode cX1_lowestSide 50 = .ok (.goto (-44), 3) := by decide +kernel
theorem dX1_lowestSide_53 : decode cX1_lowestSide 53 = .ok (.iload 5, 2) := by decide +kernel
theorem dX1_lowestSide_55 : decode cX1_lowestSide 55 = .ok (.ireturn, 1) := by decide +kernel
theorem dX1_limitBy_0 : decode cX1_limitBy 0 = .ok (.aload_n 0, 1) := by decide +kernel
theorem dX1_limitBy_1 : decode cX1_limitBy 1 = .ok (.getfield 22, 3) := by decide +kernel
theorem dX1_limitBy_4 : decode cX1_limitBy 4 = .ok (.iload_n 2, 1) := by decide +kernel
theorem dX1_limitBy_5 : decode cX1_limitBy 5 = .ok (.aaload, 1) := by decide +kernel
theorem dX1_limitBy_6 : decode cX1_limitBy 6 = .ok (.astore 5, 2) := by decide +kernel
theorem dX1_limitBy_8 : decode cX1_limitBy 8 = .ok (.iload_n 1, 1) := by decide +kernel
theorem dX1_limitBy_9 : decode cX1_limitBy 9 = .ok (.iload_n 2, 1) := by decide +kernel
theorem dX1_limitBy_10 : decode cX1_limitBy 10 = .ok (.invokestatic 169, 3) := by decide +kernel
theorem dX1_limitBy_13 : decode cX1_limitBy 13 = .ok (.if_icmp .ne 28, 3) := by decide +kernel
theorem dX1_limitBy_16 : decode cX1_limitBy 16 = .ok (.aload 5, 2) := by decide +kernel
theorem dX1_limitBy_18 : decode cX1_limitBy 18 = .ok (.aload 5, 2) := by decide +kernel
theorem dX1_limitBy_20 : decode cX1_limitBy 20 = .ok (.aload_n 0, 1) := by decide +kernel
theorem dX1_limitBy_21 : decode cX1_limitBy 21 = .ok (.getfield 22, 3) := by decide +kernel
theorem dX1_limitBy_24 : decode cX1_limitBy 24 = .ok (.iload_n 1, 1) := by decide +kernel
theorem dX1_limitBy_25 : decode cX1_limitBy 25 = .ok (.aaload, 1) := by decide +kernel
theorem dX1_limitBy_26 : decode cX1_limitBy 26 = .ok (.invokevirtual 172, 3) := by decide +kernel
theorem dX1_limitBy_29 : decode cX1_limitBy 29 = .ok (.invokevirtual 176, 3) := by decide +kernel
theorem dX1_limitBy_32 : decode cX1_limitBy 32 = .ok (.aload_n 0, 1) := by decide +kernel
theorem dX1_limitBy_33 : decode cX1_limitBy 33 = .ok (.iload_n 2, 1) := by decide +kernel
theorem dX1_limitBy_34 : decode cX1_limitBy 34 = .ok (.invokevirtual 179, 3) := by decide +kernel
theorem dX1_limitBy_37 : decode cX1_limitBy 37 = .ok (.invokevirtual 106, 3) := by decide +kernel
theorem dX1_limitBy_40 : decode cX1_limitBy 40 = .ok (.areturn, 1) := by decide +kernel
theorem dX1_limitBy_41 : decode cX1_limitBy 41 = .ok (.iload_n 1, 1) := by decide +kernel
theorem dX1_limitBy_42 : decode cX1_limitBy 42 = .ok (.ifCond .eq 8, 3) := by decide +kernel
theorem dX1_limitBy_45 : decode cX1_limitBy 45 = .ok (.iload_n 1, 1) := by decide +kernel
theorem dX1_limitBy_46 : decode cX1_limitBy 46 = .ok (.iconst 3, 1) := by decide +kernel
theorem dX1_limitBy_47 : decode cX1_limitBy 47 = .ok (.if_icmp .ne 7, 3) := by decide +kernel
theorem dX1_limitBy_50 : decode cX1_limitBy 50 = .ok (.iconst 1, 1) := by decide +kernel
theorem dX1_limitBy_51 : decode cX1_limitBy 51 = .ok (.goto 4, 3) := by decide +kernel
theorem dX1_limitBy_54 : decode cX1_limitBy 54 = .ok (.iconst 0, 1) := by decide +kernel
theorem dX1_limitBy_55 : decode cX1_limitBy 55 = .ok (.istore 6, 2) := by decide +kernel
theorem dX1_limitBy_57 : decode cX1_limitBy 57 = .ok (.iload 6, 2) := by decide +kernel
theorem dX1_limitBy_59 : decode cX1_limitBy 59 = .ok (.ifCond .eq 7, 3) := by decide +kernel
theorem dX1_limitBy_62 : decode cX1_limitBy 62 = .ok (.lload_n 3, 1) := by decide +kernel
theorem dX1_limitBy_63 : decode cX1_limitBy 63 = .ok (.goto 10, 3) := by decide +kernel
theorem dX1_limitBy_66 : decode cX1_limitBy 66 = .ok (.aload_n 0, 1) := by decide +kernel
theorem dX1_limitBy_67 : decode cX1_limitBy 67 = .ok (.iload_n 2, 1) := by decide +kernel
theorem dX1_limitBy_68 : decode cX1_limitBy 68 = .ok (.invokevirtual 69, 3) := by decide +kernel
theorem dX1_limitBy_71 : decode cX1_limitBy 71 = .ok (.lload_n 3, 1) := by decide +kernel
theorem dX1_limitBy_72 : decode cX1_limitBy 72 = .ok (.lsub, 1) := by decide +kernel
theorem dX1_limitBy_73 : decode cX1_limitBy 73 = .ok (.lstore 7, 2) := by decide +kernel
theorem dX1_limitBy_75 : decode cX1_limitBy 75 = .ok (.aload 5, 2) := by decide +kernel
theorem dX1_limitBy_77 : decode cX1_limitBy 77 = .ok (.aload_n 0, 1) := by decide +kernel
theorem dX1_limitBy_78 : decode cX1_limitBy 78 = .ok (.getfield 22, 3) := by decide +kernel
theorem dX1_limitBy_81 : decode cX1_limitBy 81 = .ok (.iload_n 1, 1) := by decide +kernel
theorem dX1_limitBy_82 : decode cX1_limitBy 82 = .ok (.aaload, 1) := by decide +kernel
theorem dX1_limitBy_83 : decode cX1_limitBy 83 = .ok (.invokevirtual 176, 3) := by decide +kernel
theorem dX1_limitBy_86 : decode cX1_limitBy 86 = .ok (.lload 7, 2) := by decide +kernel
theorem dX1_limitBy_88 : decode cX1_limitBy 88 = .ok (.invokevirtual 106, 3) := by decide +kernel
theorem dX1_limitBy_91 : decode cX1_limitBy 91 = .ok (.areturn, 1) := by decide +kernel
theorem dX1_endingSide_0 : decode cX1_endingSide 0 = .ok (.iload_n 1, 1) := by decide +kernel
theorem dX1_endingSide_1 : decode cX1_endingSide 1 = .ok (.invokestatic 169, 3) := by decide +kernel
theorem dX1_endingSide_4 : decode cX1_endingSide 4 = .ok (.istore 4, 2) := by decide +kernel
theorem dX1_endingSide_6 : decode cX1_endingSide 6 = .ok (.aload_n 0, 1) := by decide +kernel
theorem dX1_endingSide_7 : decode cX1_endingSide 7 = .ok (.iload 4, 2) := by decide +kernel
theorem dX1_endingSide_9 : decode cX1_endingSide 9 = .ok (.iload_n 1, 1) := by decide +kernel
theorem dX1_endingSide_10 : decode cX1_endingSide 10 = .ok (.lload_n 2, 1) := by decide +kernel
theorem dX1_endingSide_11 : decode cX1_endingSide 11 = .ok (.invokevirtual 182, 3) := by decide +kernel
theorem dX1_endingSide_14 : decode cX1_endingSide 14 = .ok (.astore 5, 2) := by decide +kernel
theorem dX1_endingSide_16 : decode cX1_endingSide 16 = .ok (.iconst 0, 1) := by decide +kernel
theorem dX1_endingSide_17 : decode cX1_endingSide 17 = .ok (.istore 6, 2) := by decide +kernel
theorem dX1_endingSide_19 : decode cX1_endingSide 19 = .ok (.iload 6, 2) := by decide +kernel
theorem dX1_endingSide_21 : decode cX1_endingSide 21 = .ok (.iconst 4, 1) := by decide +kernel
theorem dX1_endingSide_22 : decode cX1_endingSide 22 = .ok (.if_icmp .ge 81, 3) := by decide +kernel
theorem dX1_endingSide_25 : decode cX1_endingSide 25 = .ok (.iload 6, 2) := by decide +kernel
theorem dX1_endingSide_27 : decode cX1_endingSide 27 = .ok (.iload_n 1, 1) := by decide +kernel
theorem dX1_endingSide_28 : decode cX1_endingSide 28 = .ok (.if_icmp .eq 69, 3) := by decide +kernel
theorem dX1_endingSide_31 : decode cX1_endingSide 31 = .ok (.iload 6, 2) := by decide +kernel
theorem dX1_endingSide_33 : decode cX1_endingSide 33 = .ok (.iload_n 1, 1) := by decide +kernel
theorem dX1_endingSide_34 : decode cX1_endingSide 34 = .ok (.invokestatic 169, 3) := by decide +kernel
theorem dX1_endingSide_37 : decode cX1_endingSide 37 = .ok (.if_icmp .eq 60, 3) := by decide +kernel
theorem dX1_endingSide_40 : decode cX1_endingSide 40 = .ok (.aload_n 0, 1) := by decide +kernel
theorem dX1_endingSide_41 : decode cX1_endingSide 41 = .ok (.iload 6, 2) := by decide +kernel
theorem dX1_endingSide_43 : decode cX1_endingSide 43 = .ok (.invokevirtual 140, 3) := by decide +kernel
theorem dX1_endingSide_46 : decode cX1_endingSide 46 = .ok (.ifCond .eq 6, 3) := by decide +kernel
theorem dX1_endingSide_49 : decode cX1_endingSide 49 = .ok (.goto 48, 3) := by decide +kernel
theorem dX1_endingSide_52 : decode cX1_endingSide 52 = .ok (.aload_n 0, 1) := by decide +kernel
theorem dX1_endingSide_53 : decode cX1_endingSide 53 = .ok (.iload 6, 2) := by decide +kernel
theorem dX1_endingSide_55 : decode cX1_endingSide 55 = .ok (.iload_n 1, 1) := by decide +kernel
theorem dX1_endingSide_56 : decode cX1_endingSide 56 = .ok (.lload_n 2, 1) := by decide +kernel
theorem dX1_endingSide_57 : decode cX1_endingSide 57 = .ok (.invokevirtual 182, 3) := by decide +kernel
theorem dX1_endingSide_60 : decode cX1_endingSide 60 = .ok (.astore 7, 2) := by decide +kernel
theorem dX1_endingSide_62 : decode cX1_endingSide 62 = .ok (.aload 7, 2) := by decide +kernel
theorem dX1_endingSide_64 : decode cX1_endingSide 64 = .ok (.aload 5, 2) := by decide +kernel
theorem dX1_endingSide_66 : decode cX1_endingSide 66 = .ok (.invokevirtual 162, 3) := by decide +kernel
theorem dX1_endingSide_69 : decode cX1_endingSide 69 = .ok (.ifCond .ne 20, 3) := by decide +kernel
theorem dX1_endingSide_72 : decode cX1_endingSide 72 = .ok (.aload 7, 2) := by decide +kernel
theorem dX1_endingSide_74 : decode cX1_endingSide 74 = .ok (.aload 5, 2) := by decide +kernel
theorem dX1_endingSide_76 : decode cX1_endingSide 76 = .ok (.invokevirtual 151, 3) := by decide +kernel
theorem dX1_endingSide_79 : decode cX1_endingSide 79 = .ok (.ifCond .eq 18, 3) := by decide +kernel
theorem dX1_endingSide_82 : decode cX1_endingSide 82 = .ok (.iload 6, 2) := by decide +kernel
theorem dX1_endingSide_84 : decode cX1_endingSide 84 = .ok (.iload 4, 2) := by decide +kernel
theorem dX1_endingSide_86 : decode cX1_endingSide 86 = .ok (.if_icmp .ge 11, 3) := by decide +kernel
theorem dX1_endingSide_89 : decode cX1_endingSide 89 = .ok (.iload 6, 2) := by decide +kernel
theorem dX1_endingSide_91 : decode cX1_endingSide 91 = .ok (.istore 4, 2) := by decide +kernel
theorem dX1_endingSide_93 : decode cX1_endingSide 93 = .ok (.aload 7, 2) := by decide +kernel
theorem dX1_endingSide_95 : decode cX1_endingSide 95 = .ok (.astore 5, 2) := by decide +kernel
theorem dX1_endingSide_97 : decode cX1_endingSide 97 = .ok (.iinc 6 1, 3) := by decide +kernel
theorem dX1_endingSide_100 : decode cX1_endingSide 100 = .ok (.goto (-81), 3) := by decide +kernel
theorem dX1_endingSide_103 : decode cX1_endingSide 103 = .ok (.iload 4, 2) := by decide +kernel
theorem dX1_endingSide_105 : decode cX1_endingSide 105 = .ok (.ireturn, 1) := by decide +kernel
theorem dX1_rafterEnd_0 : decode cX1_rafterEnd 0 = .ok (.aload_n 0, 1) := by decide +kernel
theorem dX1_rafterEnd_1 : decode cX1_rafterEnd 1 = .ok (.aload_n 0, 1) := by decide +kernel
theorem dX1_rafterEnd_2 : decode cX1_rafterEnd 2 = .ok (.iload_n 1, 1) := by decide +kernel
theorem dX1_rafterEnd_3 : decode cX1_rafterEnd 3 = .ok (.lload_n 2, 1) := by decide +kernel
theorem dX1_rafterEnd_4 : decode cX1_rafterEnd 4 = .ok (.invokevirtual 80, 3) := by decide +kernel
theorem dX1_rafterEnd_7 : decode cX1_rafterEnd 7 = .ok (.iload_n 1, 1) := by decide +kernel
theorem dX1_rafterEnd_8 : decode cX1_rafterEnd 8 = .ok (.lload_n 2, 1) := by decide +kernel
theorem dX1_rafterEnd_9 : decode cX1_rafterEnd 9 = .ok (.invokevirtual 182, 3) := by decide +kernel
theorem dX1_rafterEnd_12 : decode cX1_rafterEnd 12 = .ok (.areturn, 1) := by decide +kernel
theorem dX1_squareAlongSlope_0 : decode cX1_squareAlongSlope 0 = .ok (.aload_n 0, 1) := by decide +kernel
theorem dX1_squareAlongSlope_1 : decode cX1_squareAlongSlope 1 = .ok (.getfield 22, 3) := by decide +kernel
theorem dX1_squareAlongSlope_4 : decode cX1_squareAlongSlope 4 = .ok (.iload_n 1, 1) := by decide +kernel
theorem dX1_squareAlongSlope_5 : decode cX1_squareAlongSlope 5 = .ok (.aaload, 1) := by decide +kernel
theorem dX1_squareAlongSlope_6 : decode cX1_squareAlongSlope 6 = .ok (.invokevirtual 186, 3) := by decide +kernel
theorem dX1_squareAlongSlope_9 : decode cX1_squareAlongSlope 9 = .ok (.astore_n 3, 1) := by decide +kernel
theorem dX1_squareAlongSlope_10 : decode cX1_squareAlongSlope 10 = .ok (.aload_n 3, 1) := by decide +kernel
theorem dX1_squareAlongSlope_11 : decode cX1_squareAlongSlope 11 = .ok (.aload_n 3, 1) := by decide +kernel
theorem dX1_squareAlongSlope_12 : decode cX1_squareAlongSlope 12 = .ok (.invokevirtual 189, 3) := by decide +kernel
theorem dX1_squareAlongSlope_15 : decode cX1_squareAlongSlope 15 = .ok (.new 20, 3) := by decide +kernel
theorem dX1_squareAlongSlope_18 : decode cX1_squareAlongSlope 18 = .ok (.dup, 1) := by decide +kernel
theorem dX1_squareAlongSlope_19 : decode cX1_squareAlongSlope 19 = .ok (.lconst 1, 1) := by decide +kernel
theorem dX1_squareAlongSlope_20 : decode cX1_squareAlongSlope 20 = .ok (.lconst 1, 1) := by decide +kernel
theorem dX1_squareAlongSlope_21 : decode cX1_squareAlongSlope 21 = .ok (.invokespecial 26, 3) := by decide +kernel
theorem dX1_squareAlongSlope_24 : decode cX1_squareAlongSlope 24 = .ok (.invokevirtual 172, 3) := by decide +kernel
theorem dX1_squareAlongSlope_27 : decode cX1_squareAlongSlope 27 = .ok (.aload_n 2, 1) := by decide +kernel
theorem dX1_squareAlongSlope_28 : decode cX1_squareAlongSlope 28 = .ok (.invokevirtual 189, 3) := by decide +kernel
theorem dX1_squareAlongSlope_31 : decode cX1_squareAlongSlope 31 = .ok (.aload_n 2, 1) := by decide +kernel
theorem dX1_squareAlongSlope_32 : decode cX1_squareAlongSlope 32 = .ok (.invokevirtual 189, 3) := by decide +kernel
theorem dX1_squareAlongSlope_35 : decode cX1_squareAlongSlope 35 = .ok (.areturn, 1) := by decide +kernel
theorem dX1_cutTangent_0 : decode cX1_cutTangent 0 = .ok (.aload_n 0, 1) := by decide +kernel
theorem dX1_cutTangent_1 : decode cX1_cutTangent 1 = .ok (.getfield 22, 3) := by decide +kernel
theorem dX1_cutTangent_4 : decode cX1_cutTangent 4 = .ok (.iload_n 1, 1) := by decide +kernel
theorem dX1_cutTangent_5 : decode cX1_cutTangent 5 = .ok (.aaload, 1) := by decide +kernel
theorem dX1_cutTangent_6 : decode cX1_cutTangent 6 = .ok (.astore 5, 2) := by decide +kernel
theorem dX1_cutTangent_8 : decode cX1_cutTangent 8 = .ok (.iload 4, 2) := by decide +kernel
theorem dX1_cutTangent_10 : decode cX1_cutTangent 10 = .ok (.ifCond .ne 9, 3) := by decide +kernel
theorem dX1_cutTangent_13 : decode cX1_cutTangent 13 = .ok (.aload 5, 2) := by decide +kernel
theorem dX1_cutTangent_15 : decode cX1_cutTangent 15 = .ok (.invokevirtual 186, 3) := by decide +kernel
theorem dX1_cutTangent_18 : decode cX1_cutTangent 18 = .ok (.areturn, 1) := by decide +kernel
theorem dX1_cutTangent_19 : decode cX1_cutTangent 19 = .ok (.iload 4, 2) := by decide +kernel
theorem dX1_cutTangent_21 : decode cX1_cutTangent 21 = .ok (.iconst 1, 1) := by decide +kernel
theorem dX1_cutTangent_22 : decode cX1_cutTangent 22 = .ok (.if_icmp .ne 6, 3) := by decide +kernel
theorem dX1_cutTangent_25 : decode cX1_cutTangent 25 = .ok (.aload 5, 2) := by decide +kernel
theorem dX1_cutTangent_27 : decode cX1_cutTangent 27 = .ok (.areturn, 1) := by decide +kernel
theorem dX1_cutTangent_28 : decode cX1_cutTangent 28 = .ok (.aload_n 0, 1) := by decide +kernel
theorem dX1_cutTangent_29 : decode cX1_cutTangent 29 = .ok (.iload_n 1, 1) := by decide +kernel
theorem dX1_cutTangent_30 : decode cX1_cutTangent 30 = .ok (.lload_n 2, 1) := by decide +kernel
theorem dX1_cutTangent_31 : decode cX1_cutTangent 31 = .ok (.invokevirtual 80, 3) := by decide +kernel
theorem dX1_cutTangent_34 : decode cX1_cutTangent 34 = .ok (.istore 6, 2) := by decide +kernel
theorem dX1_cutTangent_36 : decode cX1_cutTangent 36 = .ok (.iload 6, 2) := by decide +kernel
theorem dX1_cutTangent_38 : decode cX1_cutTangent 38 = .ok (.iload_n 1, 1) := by decide +kernel
theorem dX1_cutTangent_39 : decode cX1_cutTangent 39 = .ok (.invokestatic 169, 3) := by decide +kernel
theorem dX1_cutTangent_42 : decode cX1_cutTangent 42 = .ok (.if_icmp .ne 13, 3) := by decide +kernel
theorem dX1_cutTangent_45 : decode cX1_cutTangent 45 = .ok (.new 20, 3) := by decide +kernel
theorem dX1_cutTangent_48 : decode cX1_cutTangent 48 = .ok (.dup, 1) := by decide +kernel
theorem dX1_cutTangent_49 : decode cX1_cutTangent 49 = .ok (.lconst 0, 1) := by decide +kernel
theorem dX1_cutTangent_50 : decode cX1_cutTangent 50 = .ok (.lconst 1, 1) := by decide +kernel
theorem dX1_cutTangent_51 : decode cX1_cutTangent 51 = .ok (.invokespecial 26, 3) := by decide +kernel
theorem dX1_cutTangent_54 : decode cX1_cutTangent 54 = .ok (.areturn, 1) := by decide +kernel
theorem dX1_cutTangent_55 : decode cX1_cutTangent 55 = .ok (.aload_n 0, 1) := by decide +kernel
theorem dX1_cutTangent_56 : decode cX1_cutTangent 56 = .ok (.getfield 22, 3) := by decide +kernel
theorem dX1_cutTangent_59 : decode cX1_cutTangent 59 = .ok (.iload 6, 2) := by decide +kernel
theorem dX1_cutTangent_61 : decode cX1_cutTangent 61 = .ok (.aaload, 1) := by decide +kernel
theorem dX1_cutTangent_62 : decode cX1_cutTangent 62 = .ok (.aload 5, 2) := by decide +kernel
theorem dX1_cutTangent_64 : decode cX1_cutTangent 64 = .ok (.invokevirtual 176, 3) := by decide +kernel
theorem dX1_cutTangent_67 : decode cX1_cutTangent 67 = .ok (.areturn, 1) := by decide +kernel
theorem dX1_peakHeight_0 : decode cX1_peakHeight 0 = .ok (.aload_n 0, 1) := by decide +kernel
theorem dX1_peakHeight_1 : decode cX1_peakHeight 1 = .ok (.getfield 22, 3) := by decide +kernel
theorem dX1_peakHeight_4 : decode cX1_peakHeight 4 = .ok (.iconst 3, 1) := by decide +kernel
theorem dX1_peakHeight_5 : decode cX1_peakHeight 5 = .ok (.aaload, 1) := by decide +kernel
theorem dX1_peakHeight_6 : decode cX1_peakHeight 6 = .ok (.aload_n 0, 1) := by decide +kernel
theorem dX1_peakHeight_7 : decode cX1_peakHeight 7 = .ok (.getfield 22, 3) := by decide +kernel
theorem dX1_peakHeight_10 : decode cX1_peakHeight 10 = .ok (.iconst 1, 1) := by decide +kernel
theorem dX1_peakHeight_11 : decode cX1_peakHeight 11 = .ok (.aaload, 1) := by decide +kernel
theorem dX1_peakHeight_12 : decode cX1_peakHeight 12 = .ok (.invokevirtual 172, 3) := by decide +kernel
theorem dX1_peakHeight_15 : decode cX1_peakHeight 15 = .ok (.astore_n 1, 1) := by decide +kernel
theorem dX1_peakHeight_16 : decode cX1_peakHeight 16 = .ok (.aload_n 0, 1) := by decide +kernel
theorem dX1_peakHeight_17 : decode cX1_peakHeight 17 = .ok (.getfield 22, 3) := by decide +kernel
theorem dX1_peakHeight_20 : decode cX1_peakHeight 20 = .ok (.iconst 0, 1) := by decide +kernel
theorem dX1_peakHeight_21 : decode cX1_peakHeight 21 = .ok (.aaload, 1) := by decide +kernel
theorem dX1_peakHeight_22 : decode cX1_peakHeight 22 = .ok (.aload_n 0, 1) := by decide +kernel
theorem dX1_peakHeight_23 : decode cX1_peakHeight 23 = .ok (.getfield 22, 3) := by decide +kernel
theorem dX1_peakHeight_26 : decode cX1_peakHeight 26 = .ok (.iconst 2, 1) := by decide +kernel
theorem dX1_peakHeight_27 : decode cX1_peakHeight 27 = .ok (.aaload, 1) := by decide +kernel
theorem dX1_peakHeight_28 : decode cX1_peakHeight 28 = .ok (.invokevirtual 172, 3) := by decide +kernel
theorem dX1_peakHeight_31 : decode cX1_peakHeight 31 = .ok (.astore_n 2, 1) := by decide +kernel
theorem dX1_peakHeight_32 : decode cX1_peakHeight 32 = .ok (.aload_n 1, 1) := by decide +kernel
theorem dX1_peakHeight_33 : decode cX1_peakHeight 33 = .ok (.getfield 99, 3) := by decide +kernel
theorem dX1_peakHeight_36 : decode cX1_peakHeight 36 = .ok (.lconst 0, 1) := by decide +kernel
theorem dX1_peakHeight_37 : decode cX1_peakHeight 37 = .ok (.lcmp, 1) := by decide +kernel
theorem dX1_peakHeight_38 : decode cX1_peakHeight 38 = .ok (.ifCond .ne 15, 3) := by decide +kernel
theorem dX1_peakHeight_41 : decode cX1_peakHeight 41 = .ok (.aload_n 2, 1) := by decide +kernel
theorem dX1_peakHeight_42 : decode cX1_peakHeight 42 = .ok (.invokevirtual 186, 3) := by decide +kernel
theorem dX1_peakHeight_45 : decode cX1_peakHeight 45 = .ok (.aload_n 0, 1) := by decide +kernel
theorem dX1_peakHeight_46 : decode cX1_peakHeight 46 = .ok (.getfield 17, 3) := by decide +kernel
theorem dX1_peakHeight_49 : decode cX1_peakHeight 49 = .ok (.invokevirtual 106, 3) := by decide +kernel
theorem dX1_peakHeight_52 : decode cX1_peakHeight 52 = .ok (.areturn, 1) := by decide +kernel
theorem dX1_peakHeight_53 : decode cX1_peakHeight 53 = .ok (.aload_n 1, 1) := by decide +kernel
theorem dX1_peakHeight_54 : decode cX1_peakHeight 54 = .ok (.invokevirtual 186, 3) := by decide +kernel
theorem dX1_peakHeight_57 : decode cX1_peakHeight 57 = .ok (.aload_n 0, 1) := by decide +kernel
theorem dX1_peakHeight_58 : decode cX1_peakHeight 58 = .ok (.getfield 9, 3) := by decide +kernel
theorem dX1_peakHeight_61 : decode cX1_peakHeight 61 = .ok (.invokevirtual 106, 3) := by decide +kernel
theorem dX1_peakHeight_64 : decode cX1_peakHeight 64 = .ok (.astore_n 3, 1) := by decide +kernel
theorem dX1_peakHeight_65 : decode cX1_peakHeight 65 = .ok (.aload_n 2, 1) := by decide +kernel
theorem dX1_peakHeight_66 : decode cX1_peakHeight 66 = .ok (.getfield 99, 3) := by decide +kernel
theorem dX1_peakHeight_69 : decode cX1_peakHeight 69 = .ok (.lconst 0, 1) := by decide +kernel
theorem dX1_peakHeight_70 : decode cX1_peakHeight 70 = .ok (.lcmp, 1) := by decide +kernel
theorem dX1_peakHeight_71 : decode cX1_peakHeight 71 = .ok (.ifCond .ne 5, 3) := by decide +kernel
theorem dX1_peakHeight_74 : decode cX1_peakHeight 74 = .ok (.aload_n 3, 1) := by decide +kernel
theorem dX1_peakHeight_75 : decode cX1_peakHeight 75 = .ok (.areturn, 1) := by decide +kernel
theorem dX1_peakHeight_76 : decode cX1_peakHeight 76 = .ok (.aload_n 2, 1) := by decide +kernel
theorem dX1_peakHeight_77 : decode cX1_peakHeight 77 = .ok (.invokevirtual 186, 3) := by decide +kernel
theorem dX1_peakHeight_80 : decode cX1_peakHeight 80 = .ok (.aload_n 0, 1) := by decide +kernel
theorem dX1_peakHeight_81 : decode cX1_peakHeight 81 = .ok (.getfield 17, 3) := by decide +kernel
theorem dX1_peakHeight_84 : decode cX1_peakHeight 84 = .ok (.invokevirtual 106, 3) := by decide +kernel
theorem dX1_peakHeight_87 : decode cX1_peakHeight 87 = .ok (.astore 4, 2) := by decide +kernel
theorem dX1_peakHeight_89 : decode cX1_peakHeight 89 = .ok (.aload_n 3, 1) := by decide +kernel
theorem dX1_peakHeight_90 : decode cX1_peakHeight 90 = .ok (.aload 4, 2) := by decide +kernel
theorem dX1_peakHeight_92 : decode cX1_peakHeight 92 = .ok (.invokevirtual 162, 3) := by decide +kernel
theorem dX1_peakHeight_95 : decode cX1_peakHeight 95 = .ok (.ifCond .eq 7, 3) := by decide +kernel
theorem dX1_peakHeight_98 : decode cX1_peakHeight 98 = .ok (.aload_n 3, 1) := by decide +kernel
theorem dX1_peakHeight_99 : decode cX1_peakHeight 99 = .ok (.goto 5, 3) := by decide +kernel
theorem dX1_peakHeight_102 : decode cX1_peakHeight 102 = .ok (.aload 4, 2) := by decide +kernel
theorem dX1_peakHeight_104 : decode cX1_peakHeight 104 = .ok (.areturn, 1) := by decide +kernel
theorem dX1_inAtPeak_0 : decode cX1_inAtPeak 0 = .ok (.aload_n 0, 1) := by decide +kernel
theorem dX1_inAtPeak_1 : decode cX1_inAtPeak 1 = .ok (.invokevirtual 118, 3) := by decide +kernel
theorem dX1_inAtPeak_4 : decode cX1_inAtPeak 4 = .ok (.aload_n 0, 1) := by decide +kernel
theorem dX1_inAtPeak_5 : decode cX1_inAtPeak 5 = .ok (.getfield 22, 3) := by decide +kernel
theorem dX1_inAtPeak_8 : decode cX1_inAtPeak 8 = .ok (.iload_n 1, 1) := by decide +kernel
theorem dX1_inAtPeak_9 : decode cX1_inAtPeak 9 = .ok (.aaload, 1) := by decide +kernel
theorem dX1_inAtPeak_10 : decode cX1_inAtPeak 10 = .ok (.invokevirtual 189, 3) := by decide +kernel
theorem dX1_inAtPeak_13 : decode cX1_inAtPeak 13 = .ok (.areturn, 1) := by decide +kernel
theorem dX1_ridgeBound_0 : decode cX1_ridgeBound 0 = .ok (.iload_n 1, 1) := by decide +kernel
theorem dX1_ridgeBound_1 : decode cX1_ridgeBound 1 = .ok (.tableswitch 52 0 2 #[27, 33, 46], 27) := by decide +kernel
theorem dX1_ridgeBound_28 : decode cX1_ridgeBound 28 = .ok (.aload_n 0, 1) := by decide +kernel
theorem dX1_ridgeBound_29 : decode cX1_ridgeBound 29 = .ok (.iconst 3, 1) := by decide +kernel
theorem dX1_ridgeBound_30 : decode cX1_ridgeBound 30 = .ok (.invokevirtual 114, 3) := by decide +kernel
theorem dX1_ridgeBound_33 : decode cX1_ridgeBound 33 = .ok (.areturn, 1) := by decide +kernel
theorem dX1_ridgeBound_34 : decode cX1_ridgeBound 34 = .ok (.aload_n 0, 1) := by decide +kernel
theorem dX1_ridgeBound_35 : decode cX1_ridgeBound 35 = .ok (.iconst 1, 1) := by decide +kernel
theorem dX1_ridgeBound_36 : decode cX1_ridgeBound 36 = .ok (.invokevirtual 114, 3) := by decide +kernel
theorem dX1_ridgeBound_39 : decode cX1_ridgeBound 39 = .ok (.aload_n 0, 1) := by decide +kernel
theorem dX1_ridgeBound_40 : decode cX1_ridgeBound 40 = .ok (.getfield 9, 3) := by decide +kernel
theorem dX1_ridgeBound_43 : decode cX1_ridgeBound 43 = .ok (.invokevirtual 191, 3) := by decide +kernel
theorem dX1_ridgeBound_46 : decode cX1_ridgeBound 46 = .ok (.areturn, 1) := by decide +kernel
theorem dX1_ridgeBound_47 : decode cX1_ridgeBound 47 = .ok (.aload_n 0, 1) := by decide +kernel
theorem dX1_ridgeBound_48 : decode cX1_ridgeBound 48 = .ok (.iconst 0, 1) := by decide +kernel
theorem dX1_ridgeBound_49 : decode cX1_ridgeBound 49 = .ok (.invokevirtual 114, 3) := by decide +kernel
theorem dX1_ridgeBound_52 : decode cX1_ridgeBound 52 = .ok (.areturn, 1) := by decide +kernel
theorem dX1_ridgeBound_53 : decode cX1_ridgeBound 53 = .ok (.aload_n 0, 1) := by decide +kernel
theorem dX1_ridgeBound_54 : decode cX1_ridgeBound 54 = .ok (.iconst 2, 1) := by decide +kernel
theorem dX1_ridgeBound_55 : decode cX1_ridgeBound 55 = .ok (.invokevirtual 114, 3) := by decide +kernel
theorem dX1_ridgeBound_58 : decode cX1_ridgeBound 58 = .ok (.aload_n 0, 1) := by decide +kernel
theorem dX1_ridgeBound_59 : decode cX1_ridgeBound 59 = .ok (.getfield 17, 3) := by decide +kernel
theorem dX1_ridgeBound_62 : decode cX1_ridgeBound 62 = .ok (.invokevirtual 191, 3) := by decide +kernel
theorem dX1_ridgeBound_65 : decode cX1_ridgeBound 65 = .ok (.areturn, 1) := by decide +kernel
theorem dX1_twiceArea_0 : decode cX1_twiceArea 0 = .ok (.aload_n 0, 1) := by decide +kernel
theorem dX1_twiceArea_1 : decode cX1_twiceArea 1 = .ok (.invokevirtual 118, 3) := by decide +kernel
theorem dX1_twiceArea_4 : decode cX1_twiceArea 4 = .ok (.astore_n 2, 1) := by decide +kernel
theorem dX1_twiceArea_5 : decode cX1_twiceArea 5 = .ok (.aload_n 0, 1) := by decide +kernel
theorem dX1_twiceArea_6 : decode cX1_twiceArea 6 = .ok (.getfield 22, 3) := by decide +kernel
theorem dX1_twiceArea_9 : decode cX1_twiceArea 9 = .ok (.iload_n 1, 1) := by decide +kernel
theorem dX1_twiceArea_10 : decode cX1_twiceArea 10 = .ok (.invokestatic 110, 3) := by decide +kernel
theorem dX1_twiceArea_13 : decode cX1_twiceArea 13 = .ok (.aaload, 1) := by decide +kernel
theorem dX1_twiceArea_14 : decode cX1_twiceArea 14 = .ok (.aload_n 0, 1) := by decide +kernel
theorem dX1_twiceArea_15 : decode cX1_twiceArea 15 = .ok (.getfield 22, 3) := by decide +kernel
theorem dX1_twiceArea_18 : decode cX1_twiceArea 18 = .ok (.iload_n 1, 1) := by decide +kernel
theorem dX1_twiceArea_19 : decode cX1_twiceArea 19 = .ok (.invokestatic 110, 3) := by decide +kernel
theorem dX1_twiceArea_22 : decode cX1_twiceArea 22 = .ok (.invokestatic 169, 3) := by decide +kernel
theorem dX1_twiceArea_25 : decode cX1_twiceArea 25 = .ok (.aaload, 1) := by decide +kernel
theorem dX1_twiceArea_26 : decode cX1_twiceArea 26 = .ok (.invokevirtual 172, 3) := by decide +kernel
theorem dX1_twiceArea_29 : decode cX1_twiceArea 29 = .ok (.astore_n 3, 1) := by decide +kernel
theorem dX1_twiceArea_30 : decode cX1_twiceArea 30 = .ok (.aload_n 2, 1) := by decide +kernel
theorem dX1_twiceArea_31 : decode cX1_twiceArea 31 = .ok (.aload_n 3, 1) := by decide +kernel
theorem dX1_twiceArea_32 : decode cX1_twiceArea 32 = .ok (.invokevirtual 189, 3) := by decide +kernel
theorem dX1_twiceArea_35 : decode cX1_twiceArea 35 = .ok (.ldc2_w 194, 3) := by decide +kernel
theorem dX1_twiceArea_38 : decode cX1_twiceArea 38 = .ok (.aload_n 0, 1) := by decide +kernel
theorem dX1_twiceArea_39 : decode cX1_twiceArea 39 = .ok (.iload_n 1, 1) := by decide +kernel
theorem dX1_twiceArea_40 : decode cX1_twiceArea 40 = .ok (.invokevirtual 69, 3) := by decide +kernel
theorem dX1_twiceArea_43 : decode cX1_twiceArea 43 = .ok (.lmul, 1) := by decide +kernel
theorem dX1_twiceArea_44 : decode cX1_twiceArea 44 = .ok (.invokevirtual 191, 3) := by decide +kernel
theorem dX1_twiceArea_47 : decode cX1_twiceArea 47 = .ok (.astore 4, 2) := by decide +kernel
theorem dX1_twiceArea_49 : decode cX1_twiceArea 49 = .ok (.aload_n 2, 1) := by decide +kernel
theorem dX1_twiceArea_50 : decode cX1_twiceArea 50 = .ok (.aload_n 0, 1) := by decide +kernel
theorem dX1_twiceArea_51 : decode cX1_twiceArea 51 = .ok (.getfield 22, 3) := by decide +kernel
theorem dX1_twiceArea_54 : decode cX1_twiceArea 54 = .ok (.iload_n 1, 1) := by decide +kernel
theorem dX1_twiceArea_55 : decode cX1_twiceArea 55 = .ok (.aaload, 1) := by decide +kernel
theorem dX1_twiceArea_56 : decode cX1_twiceArea 56 = .ok (.invokevirtual 189, 3) := by decide +kernel
theorem dX1_twiceArea_59 : decode cX1_twiceArea 59 = .ok (.aload 4, 2) := by decide +kernel
theorem dX1_twiceArea_61 : decode cX1_twiceArea 61 = .ok (.invokevirtual 189, 3) := by decide +kernel
theorem dX1_twiceArea_64 : decode cX1_twiceArea 64 = .ok (.areturn, 1) := by decide +kernel
theorem dX1_root_0 : decode cX1_root 0 = .ok (.lconst 0, 1) := by decide +kernel
theorem dX1_root_1 : decode cX1_root 1 = .ok (.lstore_n 2, 1) := by decide +kernel
theorem dX1_root_2 : decode cX1_root 2 = .ok (.bipush 30, 2) := by decide +kernel
theorem dX1_root_4 : decode cX1_root 4 = .ok (.istore 4, 2) := by decide +kernel
theorem dX1_root_6 : decode cX1_root 6 = .ok (.iload 4, 2) := by decide +kernel
theorem dX1_root_8 : decode cX1_root 8 = .ok (.ifCond .lt 30, 3) := by decide +kernel
theorem dX1_root_11 : decode cX1_root 11 = .ok (.lload_n 2, 1) := by decide +kernel
theorem dX1_root_12 : decode cX1_root 12 = .ok (.lconst 1, 1) := by decide +kernel
theorem dX1_root_13 : decode cX1_root 13 = .ok (.iload 4, 2) := by decide +kernel
theorem dX1_root_15 : decode cX1_root 15 = .ok (.lshl, 1) := by decide +kernel
theorem dX1_root_16 : decode cX1_root 16 = .ok (.ladd, 1) := by decide +kernel
theorem dX1_root_17 : decode cX1_root 17 = .ok (.lstore 5, 2) := by decide +kernel
theorem dX1_root_19 : decode cX1_root 19 = .ok (.lload 5, 2) := by decide +kernel
theorem dX1_root_21 : decode cX1_root 21 = .ok (.lload 5, 2) := by decide +kernel
theorem dX1_root_23 : decode cX1_root 23 = .ok (.lmul, 1) := by decide +kernel
theorem dX1_root_24 : decode cX1_root 24 = .ok (.lload_n 0, 1) := by decide +kernel
theorem dX1_root_25 : decode cX1_root 25 = .ok (.lcmp, 1) := by decide +kernel
theorem dX1_root_26 : decode cX1_root 26 = .ok (.ifCond .gt 6, 3) := by decide +kernel
theorem dX1_root_29 : decode cX1_root 29 = .ok (.lload 5, 2) := by decide +kernel
theorem dX1_root_31 : decode cX1_root 31 = .ok (.lstore_n 2, 1) := by decide +kernel
theorem dX1_root_32 : decode cX1_root 32 = .ok (.iinc 4 (-1), 3) := by decide +kernel
theorem dX1_root_35 : decode cX1_root 35 = .ok (.goto (-29), 3) := by decide +kernel
theorem dX1_root_38 : decode cX1_root 38 = .ok (.lload_n 2, 1) := by decide +kernel
theorem dX1_root_39 : decode cX1_root 39 = .ok (.lreturn, 1) := by decide +kernel
end
section
/-! fractions that are not below 0, by numerator and denominator -/
def nu (q : Rat) : Nat := q.num.toNat
theorem nu_int {q : Rat} (h : 0 ≤ q) : ((nu q : Nat) : Int) = q.num := Int.toNat_of_nonneg (Rat.num_nonneg.mpr h)
theorem dn_pos (q : Rat) : 0 < q.den := Nat.pos_of_ne_zero q.den_nz
theorem dn_ne (q : Rat) : (q.den : Rat) ≠ 0 := fun h => q.den_nz (Rat.natCast_eq_zero_iff.mp h)
theorem nc_ne {d : Nat} (h : 0 < d) : (d : Rat) ≠ 0 := fun e => by
  have := Rat.natCast_eq_zero_iff.mp e
  omega
theorem nc_pos {d : Nat} (h : 0 < d) : (0 : Rat) < (d : Rat) := Rat.natCast_pos.mpr h
theorem nu_val {q : Rat} (h : 0 ≤ q) : ((nu q : Nat) : Rat) / ((q.den : Nat) : Rat) = q := by
  have e : ((nu q : Nat) : Rat) = ((q.num : Int) : Rat) := by
    rw [← nu_int h]; rfl
  rw [e, ← Rat.mkRat_eq_div, Rat.mkRat_self]
theorem nu_mul {q : Rat} (h : 0 ≤ q) : ((nu q : Nat) : Rat) = q * (q.den : Rat) := by
  have h1 := nu_val h
  have h2 := dn_ne q
  grind
theorem fr_mk {n d : Nat} (hd : 0 < d) : nu ((n : Rat) / (d : Rat)) = n / Nat.gcd n d ∧ ((n : Rat) / (d : Rat)).den = d / Nat.gcd n d ∧ (0 : Rat) ≤ (n : Rat) / (d : Rat) := by
  have e : (n : Rat) / (d : Rat) = mkRat (n : Int) d := by rw [Rat.mkRat_eq_div]; rfl
  have hd0 : d ≠ 0 := by omega
  have h1 : (mkRat (n : Int) d).num = (n : Int) / ((Nat.gcd n d : Nat) : Int) := by
    rw [Rat.num_mkRat, if_neg hd0, Int.natAbs_natCast, Nat.gcd_comm]
  have h2 : (mkRat (n : Int) d).den = d / Nat.gcd n d := by
    rw [Rat.den_mkRat, if_neg hd0, Int.natAbs_natCast, Nat.gcd_comm]
  rw [e]
  refine ⟨?_, h2, ?_⟩
  · unfold nu
    rw [h1, ← Int.natCast_ediv, Int.toNat_natCast]
  · rw [← Rat.num_nonneg, h1, ← Int.natCast_ediv]
    exact Int.natCast_nonneg _
/-- not below 0, numerator and denominator bounded -/
def bd (q : Rat) (N D : Nat) : Prop := 0 ≤ q ∧ nu q ≤ N ∧ q.den ≤ D
theorem bd.nn {q : Rat} {N D : Nat} (h : bd q N D) : 0 ≤ q := h.1
theorem bd_mk {n d : Nat} (hd : 0 < d) : bd ((n : Rat) / (d : Rat)) n d := by
  obtain ⟨h1, h2, h3⟩ := fr_mk (n := n) hd
  exact ⟨h3, by rw [h1]; exact Nat.div_le_self _ _, by rw [h2]; exact Nat.div_le_self _ _⟩
theorem bd.mono {q : Rat} {N D N' D' : Nat} (h : bd q N D) (h1 : N ≤ N') (h2 : D ≤ D') : bd q N' D' := ⟨h.1, Nat.le_trans h.2.1 h1, Nat.le_trans h.2.2 h2⟩
theorem bd_self {q : Rat} (h : 0 ≤ q) : bd q (nu q) q.den := ⟨h, Nat.le_refl _, Nat.le_refl _⟩
theorem bd_nat (n : Nat) : bd (n : Rat) n 1 := ⟨Rat.natCast_nonneg, by simp [nu], by simp⟩
theorem mul_mk {x y : Rat} (hx : 0 ≤ x) (hy : 0 ≤ y) : x * y = ((nu x * nu y : Nat) : Rat) / ((x.den * y.den : Nat) : Rat) := by
  have h1 := nu_mul hx
  have h2 := nu_mul hy
  have h3 := dn_ne x
  have h4 := dn_ne y
  rw [Rat.natCast_mul, Rat.natCast_mul, h1, h2]
  grind
theorem add_mk {x y : Rat} (hx : 0 ≤ x) (hy : 0 ≤ y) : x + y = ((nu x * y.den + nu y * x.den : Nat) : Rat) / ((x.den * y.den : Nat) : Rat) := by
  have h1 := nu_mul hx
  have h2 := nu_mul hy
  have h3 := dn_ne x
  have h4 := dn_ne y
  rw [Rat.natCast_add, Rat.natCast_mul, Rat.natCast_mul, Rat.natCast_mul, h1, h2]
  grind
theorem nu_pos {x : Rat} (hx : 0 < x) : 0 < nu x := by
  have h0 : 0 ≤ x := Rat.le_of_lt hx
  rcases Nat.eq_zero_or_pos (nu x) with h | h
  · exfalso
    have h1 := nu_val h0
    rw [h] at h1
    have : x = 0 := by rw [← h1]; simp [Rat.div_def]
    rw [this] at hx
    exact Rat.lt_irrefl hx
  · exact h
theorem nu_eq0 {x : Rat} (hx : 0 ≤ x) : nu x = 0 ↔ x = 0 := by
  constructor
  · intro h
    have h1 := nu_val hx
    rw [← h1, h]; simp [Rat.div_def]
  · intro h; rw [h]; rfl
theorem pos_of {x : Rat} (hx : 0 ≤ x) (h : x ≠ 0) : 0 < x := Rat.lt_of_le_of_ne hx (Ne.symm h)
theorem inv_mk {x : Rat} (hx : 0 < x) : x⁻¹ = ((x.den : Nat) : Rat) / ((nu x : Nat) : Rat) := by
  have h1 := nu_mul (Rat.le_of_lt hx)
  have h3 := dn_ne x
  have h4 := Rat.ne_of_gt hx
  rw [h1]
  grind
theorem div_mk {x y : Rat} (hx : 0 ≤ x) (hy : 0 < y) : x / y = ((nu x * y.den : Nat) : Rat) / ((x.den * nu y : Nat) : Rat) := by
  have h1 := nu_mul hx
  have h2 := nu_mul (Rat.le_of_lt hy)
  have h3 := dn_ne x
  have h4 := dn_ne y
  have h5 := Rat.ne_of_gt hy
  rw [Rat.natCast_mul, Rat.natCast_mul, h1, h2]
  grind
theorem sub_mk {x : Rat} {w : Nat} (hx : 0 ≤ x) (h : nu x ≤ w * x.den) : (w : Rat) - x = ((w * x.den - nu x : Nat) : Rat) / ((x.den : Nat) : Rat) := by
  have h1 := nu_mul hx
  have h3 := dn_ne x
  have e : ((w * x.den - nu x : Nat) : Rat) + (nu x : Rat) = (w : Rat) * (x.den : Rat) := by
    rw [← Rat.natCast_add, Nat.sub_add_cancel h, Rat.natCast_mul]
  grind
theorem muln_mk {x : Rat} {w : Nat} (hx : 0 ≤ x) : x * (w : Rat) = ((nu x * w : Nat) : Rat) / ((x.den : Nat) : Rat) := by
  have h1 := nu_mul hx
  have h3 := dn_ne x
  rw [Rat.natCast_mul, h1]
  grind
theorem bd_mul {x y : Rat} {N D N' D' : Nat} (hx : bd x N D) (hy : bd y N' D') : bd (x * y) (N * N') (D * D') := by
  rw [mul_mk hx.1 hy.1]
  exact (bd_mk (Nat.mul_pos (dn_pos x) (dn_pos y))).mono (Nat.mul_le_mul hx.2.1 hy.2.1) (Nat.mul_le_mul hx.2.2 hy.2.2)
theorem bd_muln {x : Rat} {w N D : Nat} (hx : bd x N D) : bd (x * (w : Rat)) (N * w) D := by
  rw [muln_mk hx.1]
  exact (bd_mk (dn_pos x)).mono (Nat.mul_le_mul hx.2.1 (Nat.le_refl _)) hx.2.2
theorem bd_add {x y : Rat} {N D N' D' : Nat} (hx : bd x N D) (hy : bd y N' D') : bd (x + y) (N * D' + N' * D) (D * D') := by
  rw [add_mk hx.1 hy.1]
  exact (bd_mk (Nat.mul_pos (dn_pos x) (dn_pos y))).mono (Nat.add_le_add (Nat.mul_le_mul hx.2.1 hy.2.2) (Nat.mul_le_mul hy.2.1 hx.2.2)) (Nat.mul_le_mul hx.2.2 hy.2.2)
theorem bd_inv {x : Rat} {N D : Nat} (hx : bd x N D) (h : 0 < x) : bd x⁻¹ D N := by
  rw [inv_mk h]
  exact (bd_mk (nu_pos h)).mono hx.2.2 hx.2.1
theorem bd_div {x y : Rat} {N D N' D' : Nat} (hx : bd x N D) (hy : bd y N' D') (h : 0 < y) : bd (x / y) (N * D') (D * N') := by
  rw [div_mk hx.1 h]
  exact (bd_mk (Nat.mul_pos (dn_pos x) (nu_pos h))).mono (Nat.mul_le_mul hx.2.1 hy.2.2) (Nat.mul_le_mul hx.2.2 hy.2.1)
theorem le_nu {x : Rat} {w : Nat} (hx : 0 ≤ x) : x ≤ (w : Rat) ↔ nu x ≤ w * x.den := by
  rw [Rat.le_iff, ← nu_int hx, Rat.num_natCast, Rat.den_natCast]
  constructor
  · intro h; have := h; simp only [Int.natCast_one, Int.mul_one] at this; exact_mod_cast this
  · intro h; simp only [Int.natCast_one, Int.mul_one]; exact_mod_cast h
theorem bd_sub {x : Rat} {w N D : Nat} (hx : bd x N D) (h : x ≤ (w : Rat)) : bd ((w : Rat) - x) (w * D) D := by
  rw [sub_mk hx.1 ((le_nu hx.1).mp h)]
  exact (bd_mk (dn_pos x)).mono (Nat.le_trans (Nat.sub_le _ _) (Nat.mul_le_mul (Nat.le_refl _) hx.2.2)) hx.2.2
theorem lt_nu {x y : Rat} (hx : 0 ≤ x) (hy : 0 ≤ y) : x < y ↔ nu x * y.den < nu y * x.den := by
  rw [Rat.lt_iff, ← nu_int hx, ← nu_int hy]
  constructor
  · intro h; exact_mod_cast h
  · intro h; exact_mod_cast h
theorem same_nu {x y : Rat} (hx : 0 ≤ x) (hy : 0 ≤ y) : x = y ↔ nu x = nu y ∧ x.den = y.den := by
  constructor
  · intro h; rw [h]; exact ⟨rfl, rfl⟩
  · rintro ⟨h1, h2⟩
    rw [← nu_val hx, ← nu_val hy, h1, h2]
/-! Euclid's way, at most so many steps -/
def eu : Nat → Nat → Nat → Nat
  | 0, a, _ => a
  | n + 1, a, b => if b = 0 then a else eu n b (a % b)
def fb : Nat → Nat × Nat
  | 0 => (1, 1)
  | n + 1 => ((fb n).2, (fb n).1 + (fb n).2)
theorem eu_bad : ∀ (n a b : Nat), b < a → eu n a b ≠ Nat.gcd a b → (fb n).1 ≤ b ∧ (fb n).2 ≤ a := by
  intro n
  induction n with
  | zero =>
    intro a b h1 h2
    have hb : b ≠ 0 := by
      intro e; subst e
      exact h2 (by simp [eu])
    simp only [fb]
    omega
  | succ n ih =>
    intro a b h1 h2
    have hb : b ≠ 0 := by
      intro e; subst e
      exact h2 (by simp [eu])
    have e : Nat.gcd a b = Nat.gcd b (a % b) := by
      rw [Nat.gcd_comm a b, Nat.gcd_rec b a, Nat.gcd_comm]
    rw [eu, if_neg hb, e] at h2
    obtain ⟨h3, h4⟩ := ih b (a % b) (Nat.mod_lt _ (by omega)) h2
    have h5 : b + a % b ≤ a := by
      have := Nat.div_add_mod a b
      have h6 : 1 ≤ a / b := (Nat.le_div_iff_mul_le (by omega)).mpr (by omega)
      have h7 : b * 1 ≤ b * (a / b) := Nat.mul_le_mul (Nat.le_refl _) h6
      omega
    simp only [fb]
    omega
theorem eu_gcd {a b : Nat} (hb : b < 2 ^ 63) : eu 100 a b = Nat.gcd a b := by
  by_cases h0 : b = 0
  · subst h0; simp [eu]
  · have e : Nat.gcd a b = Nat.gcd b (a % b) := by
      rw [Nat.gcd_comm a b, Nat.gcd_rec b a, Nat.gcd_comm]
    show eu (99 + 1) a b = _
    rw [eu, if_neg h0, e]
    by_cases h : eu 99 b (a % b) = Nat.gcd b (a % b)
    · exact h
    · exfalso
      obtain ⟨h1, h2⟩ := eu_bad 99 b (a % b) (Nat.mod_lt _ (by omega)) h
      have h3 : (fb 99).2 = 573147844013817084101 := by decide +kernel
      rw [h3] at h2
      omega
end
section
def tb : List Cond := lw_tbl.filter goodWord
theorem tb_in {w : Cond} (h : w ∈ lw_tbl) (hg : goodWord w = true) : w ∈ tb := List.mem_filter.mpr ⟨h, hg⟩
theorem mw_1 : Cond.selects "RafterPlaces" yX1_changeRun yX1_changeRun ∈ tb := tb_in (List.mem_of_getElem? (i := 1) (by decide +kernel)) (by decide +kernel)
theorem mw_2 : Cond.selects "RafterPlaces" yX1_checkOthersAreNotAllGables yX1_checkOthersAreNotAllGables ∈ tb := tb_in (List.mem_of_getElem? (i := 2) (by decide +kernel)) (by decide +kernel)
theorem mw_3 : Cond.selects "RafterPlaces" yX1_isGable yX1_isGable ∈ tb := tb_in (List.mem_of_getElem? (i := 3) (by decide +kernel)) (by decide +kernel)
theorem mw_4 : Cond.selects "RafterPlaces" yX1_checkInOutline yX1_checkInOutline ∈ tb := tb_in (List.mem_of_getElem? (i := 4) (by decide +kernel)) (by decide +kernel)
theorem mw_5 : Cond.selects "RafterPlaces" yX1_lowestSide yX1_lowestSide ∈ tb := tb_in (List.mem_of_getElem? (i := 5) (by decide +kernel)) (by decide +kernel)
theorem mw_6 : Cond.selects "RafterPlaces" yX1_isLower yX1_isLower ∈ tb := tb_in (List.mem_of_getElem? (i := 6) (by decide +kernel)) (by decide +kernel)
theorem mw_7 : Cond.selects "RafterPlaces" yX1_planeHeight yX1_planeHeight ∈ tb := tb_in (List.mem_of_getElem? (i := 7) (by decide +kernel)) (by decide +kernel)
theorem mw_8 : Cond.selects "RafterPlaces" yX1_distanceFrom yX1_distanceFrom ∈ tb := tb_in (List.mem_of_getElem? (i := 8) (by decide +kernel)) (by decide +kernel)
theorem mw_9 : Cond.selects "RafterPlaces" yX1_checkNoGable yX1_checkNoGable ∈ tb := tb_in (List.mem_of_getElem? (i := 9) (by decide +kernel)) (by decide +kernel)
theorem mw_10 : Cond.selects "RafterPlaces" yX1_sideLength yX1_sideLength ∈ tb := tb_in (List.mem_of_getElem? (i := 10) (by decide +kernel)) (by decide +kernel)
theorem mw_11 : Cond.selects "RafterPlaces" yX1_checkRafter yX1_checkRafter ∈ tb := tb_in (List.mem_of_getElem? (i := 11) (by decide +kernel)) (by decide +kernel)
theorem mw_12 : Cond.selects "RafterPlaces" yX1_rafterEnd yX1_rafterEnd ∈ tb := tb_in (List.mem_of_getElem? (i := 12) (by decide +kernel)) (by decide +kernel)
theorem mw_13 : Cond.selects "RafterPlaces" yX1_endingSide yX1_endingSide ∈ tb := tb_in (List.mem_of_getElem? (i := 13) (by decide +kernel)) (by decide +kernel)
theorem mw_14 : Cond.selects "RafterPlaces" yX1_limitBy yX1_limitBy ∈ tb := tb_in (List.mem_of_getElem? (i := 14) (by decide +kernel)) (by decide +kernel)
theorem mw_15 : Cond.selects "RafterPlaces" yX1_wayToOpposite yX1_wayToOpposite ∈ tb := tb_in (List.mem_of_getElem? (i := 15) (by decide +kernel)) (by decide +kernel)
theorem mw_16 : Cond.selects "RafterPlaces" yX1_squareAlongSlope yX1_squareAlongSlope ∈ tb := tb_in (List.mem_of_getElem? (i := 16) (by decide +kernel)) (by decide +kernel)
theorem mw_17 : Cond.selects "RafterPlaces" yX1_cutTangent yX1_cutTangent ∈ tb := tb_in (List.mem_of_getElem? (i := 17) (by decide +kernel)) (by decide +kernel)
theorem mw_18 : Cond.selects "RafterPlaces" yX1_inAtPeak yX1_inAtPeak ∈ tb := tb_in (List.mem_of_getElem? (i := 18) (by decide +kernel)) (by decide +kernel)
theorem mw_19 : Cond.selects "RafterPlaces" yX1_peakHeight yX1_peakHeight ∈ tb := tb_in (List.mem_of_getElem? (i := 19) (by decide +kernel)) (by decide +kernel)
theorem mw_20 : Cond.selects "RafterPlaces" yX1_ridgeBound yX1_ridgeBound ∈ tb := tb_in (List.mem_of_getElem? (i := 20) (by decide +kernel)) (by decide +kernel)
theorem mw_21 : Cond.selects "RafterPlaces" yX1_twiceArea yX1_twiceArea ∈ tb := tb_in (List.mem_of_getElem? (i := 21) (by decide +kernel)) (by decide +kernel)
theorem mw_22 : Cond.selects "RafterPlacesModel" yX2_put yX2_put ∈ tb := tb_in (List.mem_of_getElem? (i := 22) (by decide +kernel)) (by decide +kernel)
theorem mw_23 : Cond.selects "RafterPlacesModel" yX2_isInside yX2_isInside ∈ tb := tb_in (List.mem_of_getElem? (i := 23) (by decide +kernel)) (by decide +kernel)
theorem mw_24 : Cond.selects "RafterPlacesModel" yX2_lowest yX2_lowest ∈ tb := tb_in (List.mem_of_getElem? (i := 24) (by decide +kernel)) (by decide +kernel)
theorem mw_25 : Cond.selects "RafterPlacesModel" yX2_far yX2_far ∈ tb := tb_in (List.mem_of_getElem? (i := 25) (by decide +kernel)) (by decide +kernel)
theorem mw_26 : Cond.selects "RafterPlacesModel" yX2_told yX2_told ∈ tb := tb_in (List.mem_of_getElem? (i := 26) (by decide +kernel)) (by decide +kernel)
theorem mw_27 : Cond.selects "RafterPlacesModel" yX2_sideCode yX2_sideCode ∈ tb := tb_in (List.mem_of_getElem? (i := 27) (by decide +kernel)) (by decide +kernel)
theorem mw_28 : Cond.selects "RafterPlacesModel" yX2_width yX2_width ∈ tb := tb_in (List.mem_of_getElem? (i := 28) (by decide +kernel)) (by decide +kernel)
theorem mw_29 : Cond.selects "RafterPlacesModel" yX2_rafterCode yX2_rafterCode ∈ tb := tb_in (List.mem_of_getElem? (i := 29) (by decide +kernel)) (by decide +kernel)
theorem mw_30 : Cond.selects "RafterPlacesModel" yX2_ending yX2_ending ∈ tb := tb_in (List.mem_of_getElem? (i := 30) (by decide +kernel)) (by decide +kernel)
theorem mw_31 : Cond.selects "RafterPlacesModel" yX2_ends yX2_ends ∈ tb := tb_in (List.mem_of_getElem? (i := 31) (by decide +kernel)) (by decide +kernel)
theorem mw_32 : Cond.selects "RafterPlacesModel" yX2_depth yX2_depth ∈ tb := tb_in (List.mem_of_getElem? (i := 32) (by decide +kernel)) (by decide +kernel)
theorem mw_33 : Cond.selects "RafterPlacesModel" yX2_makePeak yX2_makePeak ∈ tb := tb_in (List.mem_of_getElem? (i := 33) (by decide +kernel)) (by decide +kernel)
theorem mw_34 : Cond.selects "RafterPlacesModel" yX2_top yX2_top ∈ tb := tb_in (List.mem_of_getElem? (i := 34) (by decide +kernel)) (by decide +kernel)
theorem mw_35 : Cond.selects "RafterPlacesModel" yX2_lesser yX2_lesser ∈ tb := tb_in (List.mem_of_getElem? (i := 35) (by decide +kernel)) (by decide +kernel)
theorem mw_36 : Cond.selects "RafterPlacesModel" yX2_makeFar yX2_makeFar ∈ tb := tb_in (List.mem_of_getElem? (i := 36) (by decide +kernel)) (by decide +kernel)
theorem mw_37 : Cond.initialized "RafterPlacesLaw" ∈ tb := tb_in (List.mem_of_getElem? (i := 37) (by decide +kernel)) (by decide +kernel)
theorem mw_38 : Cond.initialized "RafterPlaces" ∈ tb := tb_in (List.mem_of_getElem? (i := 38) (by decide +kernel)) (by decide +kernel)
theorem mw_39 : Cond.initialized "RafterPlaces$Fraction" ∈ tb := tb_in (List.mem_of_getElem? (i := 39) (by decide +kernel)) (by decide +kernel)
theorem mw_40 : Cond.initialized "RafterPlacesModel" ∈ tb := tb_in (List.mem_of_getElem? (i := 40) (by decide +kernel)) (by decide +kernel)
theorem mw_44 : Cond.initialized "java/lang/IllegalArgumentException" ∈ tb := tb_in (List.mem_of_getElem? (i := 44) (by decide +kernel)) (by decide +kernel)
theorem mw_46 : Cond.initialized "java/lang/ArrayIndexOutOfBoundsException" ∈ tb := tb_in (List.mem_of_getElem? (i := 46) (by decide +kernel)) (by decide +kernel)
theorem mw_47 : Cond.initialized "java/lang/IllegalStateException" ∈ tb := tb_in (List.mem_of_getElem? (i := 47) (by decide +kernel)) (by decide +kernel)
theorem mw_48 : Cond.classLink "RafterPlacesLaw" 8 "RafterPlaces" ∈ tb := tb_in (List.mem_of_getElem? (i := 48) (by decide +kernel)) (by decide +kernel)
theorem mw_49 : Cond.instantiable "RafterPlaces" 3 ∈ tb := tb_in (List.mem_of_getElem? (i := 49) (by decide +kernel)) (by decide +kernel)
theorem mw_50 : Cond.methodLink "RafterPlacesLaw" 74 yX1_init ∈ tb := tb_in (List.mem_of_getElem? (i := 50) (by decide +kernel)) (by decide +kernel)
theorem mw_51 : Cond.instanceMethod yX1_init ∈ tb := tb_in (List.mem_of_getElem? (i := 51) (by decide +kernel)) (by decide +kernel)
theorem mw_52 : Cond.code yX1_init cX1_init 2 none ∈ tb := tb_in (List.mem_of_getElem? (i := 52) (by decide +kernel)) (by decide +kernel)
theorem mw_53 : Cond.methodLink "RafterPlaces" 1 Lib.objectInit ∈ tb := tb_in (List.mem_of_getElem? (i := 53) (by decide +kernel)) (by decide +kernel)
theorem mw_54 : Cond.instanceMethod Lib.objectInit ∈ tb := tb_in (List.mem_of_getElem? (i := 54) (by decide +kernel)) (by decide +kernel)
theorem mw_55 : Cond.code Lib.objectInit object_method_1_code 1 none ∈ tb := tb_in (List.mem_of_getElem? (i := 55) (by decide +kernel)) (by decide +kernel)
theorem mw_56 : Cond.constantLong "RafterPlaces" 7 (1000) ∈ tb := tb_in (List.mem_of_getElem? (i := 56) (by decide +kernel)) (by decide +kernel)
theorem mw_57 : Cond.constantLong "RafterPlaces" 15 (600) ∈ tb := tb_in (List.mem_of_getElem? (i := 57) (by decide +kernel)) (by decide +kernel)
theorem mw_58 : Cond.classLink "RafterPlaces" 20 "RafterPlaces$Fraction" ∈ tb := tb_in (List.mem_of_getElem? (i := 58) (by decide +kernel)) (by decide +kernel)
theorem mw_60 : Cond.instantiable "RafterPlaces$Fraction" 2 ∈ tb := tb_in (List.mem_of_getElem? (i := 60) (by decide +kernel)) (by decide +kernel)
theorem mw_61 : Cond.methodLink "RafterPlaces" 26 yX0_init ∈ tb := tb_in (List.mem_of_getElem? (i := 61) (by decide +kernel)) (by decide +kernel)
theorem mw_62 : Cond.instanceMethod yX0_init ∈ tb := tb_in (List.mem_of_getElem? (i := 62) (by decide +kernel)) (by decide +kernel)
theorem mw_63 : Cond.code yX0_init cX0_init 9 none ∈ tb := tb_in (List.mem_of_getElem? (i := 63) (by decide +kernel)) (by decide +kernel)
theorem mw_64 : Cond.methodLink "RafterPlaces$Fraction" 1 Lib.objectInit ∈ tb := tb_in (List.mem_of_getElem? (i := 64) (by decide +kernel)) (by decide +kernel)
theorem mw_65 : Cond.methodLink "RafterPlaces$Fraction" 7 yX0_commonDivisor ∈ tb := tb_in (List.mem_of_getElem? (i := 65) (by decide +kernel)) (by decide +kernel)
theorem mw_66 : Cond.static yX0_commonDivisor ∈ tb := tb_in (List.mem_of_getElem? (i := 66) (by decide +kernel)) (by decide +kernel)
theorem mw_67 : Cond.code yX0_commonDivisor cX0_commonDivisor 11 (some FieldType.long) ∈ tb := tb_in (List.mem_of_getElem? (i := 67) (by decide +kernel)) (by decide +kernel)
theorem mw_68 : Cond.fieldLink "RafterPlaces$Fraction" 13 "RafterPlaces$Fraction" "above" "J" ∈ tb := tb_in (List.mem_of_getElem? (i := 68) (by decide +kernel)) (by decide +kernel)
theorem mw_69 : Cond.fieldLink "RafterPlaces" 99 "RafterPlaces$Fraction" "above" "J" ∈ tb := tb_in (List.mem_of_getElem? (i := 69) (by decide +kernel)) (by decide +kernel)
theorem mw_70 : Cond.fieldLink "RafterPlaces$Fraction" 17 "RafterPlaces$Fraction" "below" "J" ∈ tb := tb_in (List.mem_of_getElem? (i := 70) (by decide +kernel)) (by decide +kernel)
theorem mw_71 : Cond.fieldLink "RafterPlaces" 96 "RafterPlaces$Fraction" "below" "J" ∈ tb := tb_in (List.mem_of_getElem? (i := 71) (by decide +kernel)) (by decide +kernel)
theorem mw_72 : Cond.laysFinal "RafterPlaces$Fraction" "RafterPlaces$Fraction" "above" "J" ∈ tb := tb_in (List.mem_of_getElem? (i := 72) (by decide +kernel)) (by decide +kernel)
theorem mw_74 : Cond.laysFinal "RafterPlaces$Fraction" "RafterPlaces$Fraction" "below" "J" ∈ tb := tb_in (List.mem_of_getElem? (i := 74) (by decide +kernel)) (by decide +kernel)
theorem mw_77 : Cond.fieldLink "RafterPlaces" 9 "RafterPlaces" "extentX" "J" ∈ tb := tb_in (List.mem_of_getElem? (i := 77) (by decide +kernel)) (by decide +kernel)
theorem mw_78 : Cond.fieldLink "RafterPlaces" 17 "RafterPlaces" "extentY" "J" ∈ tb := tb_in (List.mem_of_getElem? (i := 78) (by decide +kernel)) (by decide +kernel)
theorem mw_79 : Cond.fieldLink "RafterPlaces" 22 "RafterPlaces" "runs" "[LRafterPlaces$Fraction;" ∈ tb := tb_in (List.mem_of_getElem? (i := 79) (by decide +kernel)) (by decide +kernel)
theorem mw_80 : Cond.lays "RafterPlaces" "RafterPlaces" "extentX" "J" ∈ tb := tb_in (List.mem_of_getElem? (i := 80) (by decide +kernel)) (by decide +kernel)
theorem mw_82 : Cond.lays "RafterPlaces" "RafterPlaces" "extentY" "J" ∈ tb := tb_in (List.mem_of_getElem? (i := 82) (by decide +kernel)) (by decide +kernel)
theorem mw_84 : Cond.laysFinal "RafterPlaces" "RafterPlaces" "runs" "[LRafterPlaces$Fraction;" ∈ tb := tb_in (List.mem_of_getElem? (i := 84) (by decide +kernel)) (by decide +kernel)
theorem mw_87 : Cond.methodLink "RafterPlacesLaw" 80 yL_outline ∈ tb := tb_in (List.mem_of_getElem? (i := 87) (by decide +kernel)) (by decide +kernel)
theorem mw_88 : Cond.static yL_outline ∈ tb := tb_in (List.mem_of_getElem? (i := 88) (by decide +kernel)) (by decide +kernel)
theorem mw_90 : Cond.classLink "RafterPlacesLaw" 13 "java/lang/IllegalArgumentException" ∈ tb := tb_in (List.mem_of_getElem? (i := 90) (by decide +kernel)) (by decide +kernel)
theorem mw_91 : Cond.methodLink "RafterPlacesLaw" 7 yX1_outline ∈ tb := tb_in (List.mem_of_getElem? (i := 91) (by decide +kernel)) (by decide +kernel)
theorem mw_92 : Cond.instanceMethod yX1_outline ∈ tb := tb_in (List.mem_of_getElem? (i := 92) (by decide +kernel)) (by decide +kernel)
theorem mw_93 : Cond.selects "RafterPlaces" yX1_outline yX1_outline ∈ tb := tb_in (List.mem_of_getElem? (i := 93) (by decide +kernel)) (by decide +kernel)
theorem mw_94 : Cond.code yX1_outline cX1_outline 6 (some FieldType.boolean) ∈ tb := tb_in (List.mem_of_getElem? (i := 94) (by decide +kernel)) (by decide +kernel)
theorem mw_95 : Cond.constantLong "RafterPlaces" 29 (2000) ∈ tb := tb_in (List.mem_of_getElem? (i := 95) (by decide +kernel)) (by decide +kernel)
theorem mw_96 : Cond.methodLink "RafterPlaces" 31 yX1_checkNumber ∈ tb := tb_in (List.mem_of_getElem? (i := 96) (by decide +kernel)) (by decide +kernel)
theorem mw_97 : Cond.static yX1_checkNumber ∈ tb := tb_in (List.mem_of_getElem? (i := 97) (by decide +kernel)) (by decide +kernel)
theorem mw_98 : Cond.code yX1_checkNumber cX1_checkNumber 6 none ∈ tb := tb_in (List.mem_of_getElem? (i := 98) (by decide +kernel)) (by decide +kernel)
theorem mw_99 : Cond.classLink "RafterPlaces" 135 "java/lang/IllegalArgumentException" ∈ tb := tb_in (List.mem_of_getElem? (i := 99) (by decide +kernel)) (by decide +kernel)
theorem mw_100 : Cond.instantiable "java/lang/IllegalArgumentException" 6 ∈ tb := tb_in (List.mem_of_getElem? (i := 100) (by decide +kernel)) (by decide +kernel)
theorem mw_141 : Cond.methodLink "RafterPlaces" 139 ⟨"java/lang/IllegalArgumentException", "<init>", "(Ljava/lang/String;)V"⟩ ∈ tb := tb_in (List.mem_of_getElem? (i := 141) (by decide +kernel)) (by decide +kernel)
theorem mw_142 : Cond.instanceMethod ⟨"java/lang/IllegalArgumentException", "<init>", "(Ljava/lang/String;)V"⟩ ∈ tb := tb_in (List.mem_of_getElem? (i := 142) (by decide +kernel)) (by decide +kernel)
theorem mw_143 : Cond.code ⟨"java/lang/IllegalArgumentException", "<init>", "(Ljava/lang/String;)V"⟩ prog_7_method_2_code 2 none ∈ tb := tb_in (List.mem_of_getElem? (i := 143) (by decide +kernel)) (by decide +kernel)
theorem mw_166 : Cond.arrayClass FieldType.byte ∈ tb := tb_in (List.mem_of_getElem? (i := 166) (by decide +kernel)) (by decide +kernel)
theorem mw_167 : Cond.methodLink "RafterPlacesLaw" 90 yL_slope ∈ tb := tb_in (List.mem_of_getElem? (i := 167) (by decide +kernel)) (by decide +kernel)
theorem mw_168 : Cond.static yL_slope ∈ tb := tb_in (List.mem_of_getElem? (i := 168) (by decide +kernel)) (by decide +kernel)
theorem mw_170 : Cond.classLink "RafterPlacesLaw" 19 "java/lang/ArrayIndexOutOfBoundsException" ∈ tb := tb_in (List.mem_of_getElem? (i := 170) (by decide +kernel)) (by decide +kernel)
theorem mw_171 : Cond.methodLink "RafterPlacesLaw" 15 yX1_slope ∈ tb := tb_in (List.mem_of_getElem? (i := 171) (by decide +kernel)) (by decide +kernel)
theorem mw_172 : Cond.instanceMethod yX1_slope ∈ tb := tb_in (List.mem_of_getElem? (i := 172) (by decide +kernel)) (by decide +kernel)
theorem mw_173 : Cond.selects "RafterPlaces" yX1_slope yX1_slope ∈ tb := tb_in (List.mem_of_getElem? (i := 173) (by decide +kernel)) (by decide +kernel)
theorem mw_174 : Cond.code yX1_slope cX1_slope 6 (some FieldType.boolean) ∈ tb := tb_in (List.mem_of_getElem? (i := 174) (by decide +kernel)) (by decide +kernel)
theorem mw_175 : Cond.methodLink "RafterPlaces" 35 yX1_checkIndex ∈ tb := tb_in (List.mem_of_getElem? (i := 175) (by decide +kernel)) (by decide +kernel)
theorem mw_176 : Cond.static yX1_checkIndex ∈ tb := tb_in (List.mem_of_getElem? (i := 176) (by decide +kernel)) (by decide +kernel)
theorem mw_177 : Cond.code yX1_checkIndex cX1_checkIndex 2 none ∈ tb := tb_in (List.mem_of_getElem? (i := 177) (by decide +kernel)) (by decide +kernel)
theorem mw_178 : Cond.classLink "RafterPlaces" 128 "java/lang/ArrayIndexOutOfBoundsException" ∈ tb := tb_in (List.mem_of_getElem? (i := 178) (by decide +kernel)) (by decide +kernel)
theorem mw_179 : Cond.instantiable "java/lang/ArrayIndexOutOfBoundsException" 6 ∈ tb := tb_in (List.mem_of_getElem? (i := 179) (by decide +kernel)) (by decide +kernel)
theorem mw_190 : Cond.methodLink "RafterPlaces" 132 yJx00060_init_a7421 ∈ tb := tb_in (List.mem_of_getElem? (i := 190) (by decide +kernel)) (by decide +kernel)
theorem mw_191 : Cond.instanceMethod yJx00060_init_a7421 ∈ tb := tb_in (List.mem_of_getElem? (i := 191) (by decide +kernel)) (by decide +kernel)
theorem mw_192 : Cond.code yJx00060_init_a7421 cJx00060_init_a7421 2 none ∈ tb := tb_in (List.mem_of_getElem? (i := 192) (by decide +kernel)) (by decide +kernel)
theorem mw_199 : Cond.constantLong "RafterPlaces" 39 (20) ∈ tb := tb_in (List.mem_of_getElem? (i := 199) (by decide +kernel)) (by decide +kernel)
theorem mw_200 : Cond.methodLink "RafterPlaces" 41 yX1_changeRun ∈ tb := tb_in (List.mem_of_getElem? (i := 200) (by decide +kernel)) (by decide +kernel)
theorem mw_202 : Cond.instanceMethod yX1_changeRun ∈ tb := tb_in (List.mem_of_getElem? (i := 202) (by decide +kernel)) (by decide +kernel)
theorem mw_203 : Cond.code yX1_changeRun cX1_changeRun 4 (some FieldType.boolean) ∈ tb := tb_in (List.mem_of_getElem? (i := 203) (by decide +kernel)) (by decide +kernel)
theorem mw_204 : Cond.methodLink "RafterPlaces" 151 yX0_isSame ∈ tb := tb_in (List.mem_of_getElem? (i := 204) (by decide +kernel)) (by decide +kernel)
theorem mw_205 : Cond.instanceMethod yX0_isSame ∈ tb := tb_in (List.mem_of_getElem? (i := 205) (by decide +kernel)) (by decide +kernel)
theorem mw_206 : Cond.selects "RafterPlaces$Fraction" yX0_isSame yX0_isSame ∈ tb := tb_in (List.mem_of_getElem? (i := 206) (by decide +kernel)) (by decide +kernel)
theorem mw_207 : Cond.code yX0_isSame cX0_isSame 2 (some FieldType.boolean) ∈ tb := tb_in (List.mem_of_getElem? (i := 207) (by decide +kernel)) (by decide +kernel)
theorem mw_208 : Cond.methodLink "RafterPlacesLaw" 94 yL_gable ∈ tb := tb_in (List.mem_of_getElem? (i := 208) (by decide +kernel)) (by decide +kernel)
theorem mw_209 : Cond.static yL_gable ∈ tb := tb_in (List.mem_of_getElem? (i := 209) (by decide +kernel)) (by decide +kernel)
theorem mw_211 : Cond.classLink "RafterPlacesLaw" 25 "java/lang/IllegalStateException" ∈ tb := tb_in (List.mem_of_getElem? (i := 211) (by decide +kernel)) (by decide +kernel)
theorem mw_212 : Cond.methodLink "RafterPlacesLaw" 21 yX1_gable ∈ tb := tb_in (List.mem_of_getElem? (i := 212) (by decide +kernel)) (by decide +kernel)
theorem mw_213 : Cond.instanceMethod yX1_gable ∈ tb := tb_in (List.mem_of_getElem? (i := 213) (by decide +kernel)) (by decide +kernel)
theorem mw_214 : Cond.selects "RafterPlaces" yX1_gable yX1_gable ∈ tb := tb_in (List.mem_of_getElem? (i := 214) (by decide +kernel)) (by decide +kernel)
theorem mw_215 : Cond.code yX1_gable cX1_gable 2 (some FieldType.boolean) ∈ tb := tb_in (List.mem_of_getElem? (i := 215) (by decide +kernel)) (by decide +kernel)
theorem mw_216 : Cond.methodLink "RafterPlaces" 45 yX1_checkOthersAreNotAllGables ∈ tb := tb_in (List.mem_of_getElem? (i := 216) (by decide +kernel)) (by decide +kernel)
theorem mw_218 : Cond.instanceMethod yX1_checkOthersAreNotAllGables ∈ tb := tb_in (List.mem_of_getElem? (i := 218) (by decide +kernel)) (by decide +kernel)
theorem mw_219 : Cond.code yX1_checkOthersAreNotAllGables cX1_checkOthersAreNotAllGables 3 none ∈ tb := tb_in (List.mem_of_getElem? (i := 219) (by decide +kernel)) (by decide +kernel)
theorem mw_220 : Cond.methodLink "RafterPlaces" 140 yX1_isGable ∈ tb := tb_in (List.mem_of_getElem? (i := 220) (by decide +kernel)) (by decide +kernel)
theorem mw_222 : Cond.instanceMethod yX1_isGable ∈ tb := tb_in (List.mem_of_getElem? (i := 222) (by decide +kernel)) (by decide +kernel)
theorem mw_223 : Cond.code yX1_isGable cX1_isGable 2 (some FieldType.boolean) ∈ tb := tb_in (List.mem_of_getElem? (i := 223) (by decide +kernel)) (by decide +kernel)
theorem mw_224 : Cond.classLink "RafterPlaces" 144 "java/lang/IllegalStateException" ∈ tb := tb_in (List.mem_of_getElem? (i := 224) (by decide +kernel)) (by decide +kernel)
theorem mw_225 : Cond.instantiable "java/lang/IllegalStateException" 6 ∈ tb := tb_in (List.mem_of_getElem? (i := 225) (by decide +kernel)) (by decide +kernel)
theorem mw_234 : Cond.methodLink "RafterPlaces" 148 ⟨"java/lang/IllegalStateException", "<init>", "(Ljava/lang/String;)V"⟩ ∈ tb := tb_in (List.mem_of_getElem? (i := 234) (by decide +kernel)) (by decide +kernel)
theorem mw_235 : Cond.instanceMethod ⟨"java/lang/IllegalStateException", "<init>", "(Ljava/lang/String;)V"⟩ ∈ tb := tb_in (List.mem_of_getElem? (i := 235) (by decide +kernel)) (by decide +kernel)
theorem mw_236 : Cond.code ⟨"java/lang/IllegalStateException", "<init>", "(Ljava/lang/String;)V"⟩ prog_8_method_2_code 2 none ∈ tb := tb_in (List.mem_of_getElem? (i := 236) (by decide +kernel)) (by decide +kernel)
theorem mw_240 : Cond.methodLink "RafterPlacesLaw" 98 yL_place ∈ tb := tb_in (List.mem_of_getElem? (i := 240) (by decide +kernel)) (by decide +kernel)
theorem mw_241 : Cond.static yL_place ∈ tb := tb_in (List.mem_of_getElem? (i := 241) (by decide +kernel)) (by decide +kernel)
theorem mw_243 : Cond.methodLink "RafterPlacesLaw" 27 yX1_place ∈ tb := tb_in (List.mem_of_getElem? (i := 243) (by decide +kernel)) (by decide +kernel)
theorem mw_244 : Cond.instanceMethod yX1_place ∈ tb := tb_in (List.mem_of_getElem? (i := 244) (by decide +kernel)) (by decide +kernel)
theorem mw_245 : Cond.selects "RafterPlaces" yX1_place yX1_place ∈ tb := tb_in (List.mem_of_getElem? (i := 245) (by decide +kernel)) (by decide +kernel)
theorem mw_246 : Cond.code yX1_place cX1_place 6 (some FieldType.long) ∈ tb := tb_in (List.mem_of_getElem? (i := 246) (by decide +kernel)) (by decide +kernel)
theorem mw_247 : Cond.methodLink "RafterPlaces" 49 yX1_checkInOutline ∈ tb := tb_in (List.mem_of_getElem? (i := 247) (by decide +kernel)) (by decide +kernel)
theorem mw_249 : Cond.instanceMethod yX1_checkInOutline ∈ tb := tb_in (List.mem_of_getElem? (i := 249) (by decide +kernel)) (by decide +kernel)
theorem mw_250 : Cond.code yX1_checkInOutline cX1_checkInOutline 5 none ∈ tb := tb_in (List.mem_of_getElem? (i := 250) (by decide +kernel)) (by decide +kernel)
theorem mw_251 : Cond.methodLink "RafterPlaces" 52 yX1_lowestSide ∈ tb := tb_in (List.mem_of_getElem? (i := 251) (by decide +kernel)) (by decide +kernel)
theorem mw_253 : Cond.instanceMethod yX1_lowestSide ∈ tb := tb_in (List.mem_of_getElem? (i := 253) (by decide +kernel)) (by decide +kernel)
theorem mw_254 : Cond.code yX1_lowestSide cX1_lowestSide 7 (some FieldType.int) ∈ tb := tb_in (List.mem_of_getElem? (i := 254) (by decide +kernel)) (by decide +kernel)
theorem mw_255 : Cond.methodLink "RafterPlaces" 165 yX1_isLower ∈ tb := tb_in (List.mem_of_getElem? (i := 255) (by decide +kernel)) (by decide +kernel)
theorem mw_257 : Cond.instanceMethod yX1_isLower ∈ tb := tb_in (List.mem_of_getElem? (i := 257) (by decide +kernel)) (by decide +kernel)
theorem mw_258 : Cond.code yX1_isLower cX1_isLower 7 (some FieldType.boolean) ∈ tb := tb_in (List.mem_of_getElem? (i := 258) (by decide +kernel)) (by decide +kernel)
theorem mw_259 : Cond.methodLink "RafterPlaces" 56 yX1_planeHeight ∈ tb := tb_in (List.mem_of_getElem? (i := 259) (by decide +kernel)) (by decide +kernel)
theorem mw_261 : Cond.instanceMethod yX1_planeHeight ∈ tb := tb_in (List.mem_of_getElem? (i := 261) (by decide +kernel)) (by decide +kernel)
theorem mw_262 : Cond.code yX1_planeHeight cX1_planeHeight 6 (some (FieldType.object "RafterPlaces$Fraction")) ∈ tb := tb_in (List.mem_of_getElem? (i := 262) (by decide +kernel)) (by decide +kernel)
theorem mw_263 : Cond.methodLink "RafterPlaces" 158 yX1_distanceFrom ∈ tb := tb_in (List.mem_of_getElem? (i := 263) (by decide +kernel)) (by decide +kernel)
theorem mw_265 : Cond.instanceMethod yX1_distanceFrom ∈ tb := tb_in (List.mem_of_getElem? (i := 265) (by decide +kernel)) (by decide +kernel)
theorem mw_266 : Cond.code yX1_distanceFrom cX1_distanceFrom 6 (some FieldType.long) ∈ tb := tb_in (List.mem_of_getElem? (i := 266) (by decide +kernel)) (by decide +kernel)
theorem mw_267 : Cond.methodLink "RafterPlaces" 162 yX0_isLess ∈ tb := tb_in (List.mem_of_getElem? (i := 267) (by decide +kernel)) (by decide +kernel)
theorem mw_268 : Cond.instanceMethod yX0_isLess ∈ tb := tb_in (List.mem_of_getElem? (i := 268) (by decide +kernel)) (by decide +kernel)
theorem mw_269 : Cond.selects "RafterPlaces$Fraction" yX0_isLess yX0_isLess ∈ tb := tb_in (List.mem_of_getElem? (i := 269) (by decide +kernel)) (by decide +kernel)
theorem mw_270 : Cond.code yX0_isLess cX0_isLess 2 (some FieldType.boolean) ∈ tb := tb_in (List.mem_of_getElem? (i := 270) (by decide +kernel)) (by decide +kernel)
theorem mw_271 : Cond.methodLink "RafterPlaces" 60 yX0_part ∈ tb := tb_in (List.mem_of_getElem? (i := 271) (by decide +kernel)) (by decide +kernel)
theorem mw_272 : Cond.instanceMethod yX0_part ∈ tb := tb_in (List.mem_of_getElem? (i := 272) (by decide +kernel)) (by decide +kernel)
theorem mw_273 : Cond.selects "RafterPlaces$Fraction" yX0_part yX0_part ∈ tb := tb_in (List.mem_of_getElem? (i := 273) (by decide +kernel)) (by decide +kernel)
theorem mw_274 : Cond.code yX0_part cX0_part 2 (some FieldType.long) ∈ tb := tb_in (List.mem_of_getElem? (i := 274) (by decide +kernel)) (by decide +kernel)
theorem mw_275 : Cond.methodLink "RafterPlacesLaw" 102 yL_face ∈ tb := tb_in (List.mem_of_getElem? (i := 275) (by decide +kernel)) (by decide +kernel)
theorem mw_276 : Cond.static yL_face ∈ tb := tb_in (List.mem_of_getElem? (i := 276) (by decide +kernel)) (by decide +kernel)
theorem mw_278 : Cond.methodLink "RafterPlacesLaw" 31 yX1_face ∈ tb := tb_in (List.mem_of_getElem? (i := 278) (by decide +kernel)) (by decide +kernel)
theorem mw_279 : Cond.instanceMethod yX1_face ∈ tb := tb_in (List.mem_of_getElem? (i := 279) (by decide +kernel)) (by decide +kernel)
theorem mw_280 : Cond.selects "RafterPlaces" yX1_face yX1_face ∈ tb := tb_in (List.mem_of_getElem? (i := 280) (by decide +kernel)) (by decide +kernel)
theorem mw_281 : Cond.code yX1_face cX1_face 5 (some FieldType.int) ∈ tb := tb_in (List.mem_of_getElem? (i := 281) (by decide +kernel)) (by decide +kernel)
theorem mw_282 : Cond.methodLink "RafterPlacesLaw" 105 yL_rafter ∈ tb := tb_in (List.mem_of_getElem? (i := 282) (by decide +kernel)) (by decide +kernel)
theorem mw_283 : Cond.static yL_rafter ∈ tb := tb_in (List.mem_of_getElem? (i := 283) (by decide +kernel)) (by decide +kernel)
theorem mw_285 : Cond.methodLink "RafterPlacesLaw" 35 yX1_rafter ∈ tb := tb_in (List.mem_of_getElem? (i := 285) (by decide +kernel)) (by decide +kernel)
theorem mw_286 : Cond.instanceMethod yX1_rafter ∈ tb := tb_in (List.mem_of_getElem? (i := 286) (by decide +kernel)) (by decide +kernel)
theorem mw_287 : Cond.selects "RafterPlaces" yX1_rafter yX1_rafter ∈ tb := tb_in (List.mem_of_getElem? (i := 287) (by decide +kernel)) (by decide +kernel)
theorem mw_288 : Cond.code yX1_rafter cX1_rafter 4 (some FieldType.int) ∈ tb := tb_in (List.mem_of_getElem? (i := 288) (by decide +kernel)) (by decide +kernel)
theorem mw_289 : Cond.methodLink "RafterPlaces" 64 yX1_checkNoGable ∈ tb := tb_in (List.mem_of_getElem? (i := 289) (by decide +kernel)) (by decide +kernel)
theorem mw_291 : Cond.instanceMethod yX1_checkNoGable ∈ tb := tb_in (List.mem_of_getElem? (i := 291) (by decide +kernel)) (by decide +kernel)
theorem mw_292 : Cond.code yX1_checkNoGable cX1_checkNoGable 2 none ∈ tb := tb_in (List.mem_of_getElem? (i := 292) (by decide +kernel)) (by decide +kernel)
theorem mw_294 : Cond.constantLong "RafterPlaces" 67 (10000) ∈ tb := tb_in (List.mem_of_getElem? (i := 294) (by decide +kernel)) (by decide +kernel)
theorem mw_295 : Cond.methodLink "RafterPlaces" 69 yX1_sideLength ∈ tb := tb_in (List.mem_of_getElem? (i := 295) (by decide +kernel)) (by decide +kernel)
theorem mw_297 : Cond.instanceMethod yX1_sideLength ∈ tb := tb_in (List.mem_of_getElem? (i := 297) (by decide +kernel)) (by decide +kernel)
theorem mw_298 : Cond.code yX1_sideLength cX1_sideLength 2 (some FieldType.long) ∈ tb := tb_in (List.mem_of_getElem? (i := 298) (by decide +kernel)) (by decide +kernel)
theorem mw_299 : Cond.methodLink "RafterPlaces" 155 yX1_goesAlongX ∈ tb := tb_in (List.mem_of_getElem? (i := 299) (by decide +kernel)) (by decide +kernel)
theorem mw_300 : Cond.static yX1_goesAlongX ∈ tb := tb_in (List.mem_of_getElem? (i := 300) (by decide +kernel)) (by decide +kernel)
theorem mw_301 : Cond.code yX1_goesAlongX cX1_goesAlongX 1 (some FieldType.boolean) ∈ tb := tb_in (List.mem_of_getElem? (i := 301) (by decide +kernel)) (by decide +kernel)
theorem mw_302 : Cond.methodLink "RafterPlacesLaw" 109 yL_end ∈ tb := tb_in (List.mem_of_getElem? (i := 302) (by decide +kernel)) (by decide +kernel)
theorem mw_303 : Cond.static yL_end ∈ tb := tb_in (List.mem_of_getElem? (i := 303) (by decide +kernel)) (by decide +kernel)
theorem mw_305 : Cond.methodLink "RafterPlacesLaw" 39 yX1_end ∈ tb := tb_in (List.mem_of_getElem? (i := 305) (by decide +kernel)) (by decide +kernel)
theorem mw_306 : Cond.instanceMethod yX1_end ∈ tb := tb_in (List.mem_of_getElem? (i := 306) (by decide +kernel)) (by decide +kernel)
theorem mw_307 : Cond.selects "RafterPlaces" yX1_end yX1_end ∈ tb := tb_in (List.mem_of_getElem? (i := 307) (by decide +kernel)) (by decide +kernel)
theorem mw_308 : Cond.code yX1_end cX1_end 5 (some FieldType.long) ∈ tb := tb_in (List.mem_of_getElem? (i := 308) (by decide +kernel)) (by decide +kernel)
theorem mw_309 : Cond.methodLink "RafterPlaces" 72 yX1_checkRafter ∈ tb := tb_in (List.mem_of_getElem? (i := 309) (by decide +kernel)) (by decide +kernel)
theorem mw_311 : Cond.instanceMethod yX1_checkRafter ∈ tb := tb_in (List.mem_of_getElem? (i := 311) (by decide +kernel)) (by decide +kernel)
theorem mw_312 : Cond.code yX1_checkRafter cX1_checkRafter 4 none ∈ tb := tb_in (List.mem_of_getElem? (i := 312) (by decide +kernel)) (by decide +kernel)
theorem mw_313 : Cond.methodLink "RafterPlaces" 76 yX1_rafterEnd ∈ tb := tb_in (List.mem_of_getElem? (i := 313) (by decide +kernel)) (by decide +kernel)
theorem mw_315 : Cond.instanceMethod yX1_rafterEnd ∈ tb := tb_in (List.mem_of_getElem? (i := 315) (by decide +kernel)) (by decide +kernel)
theorem mw_316 : Cond.code yX1_rafterEnd cX1_rafterEnd 4 (some (FieldType.object "RafterPlaces$Fraction")) ∈ tb := tb_in (List.mem_of_getElem? (i := 316) (by decide +kernel)) (by decide +kernel)
theorem mw_317 : Cond.methodLink "RafterPlaces" 80 yX1_endingSide ∈ tb := tb_in (List.mem_of_getElem? (i := 317) (by decide +kernel)) (by decide +kernel)
theorem mw_319 : Cond.instanceMethod yX1_endingSide ∈ tb := tb_in (List.mem_of_getElem? (i := 319) (by decide +kernel)) (by decide +kernel)
theorem mw_320 : Cond.code yX1_endingSide cX1_endingSide 8 (some FieldType.int) ∈ tb := tb_in (List.mem_of_getElem? (i := 320) (by decide +kernel)) (by decide +kernel)
theorem mw_321 : Cond.methodLink "RafterPlaces" 169 yX1_opposite ∈ tb := tb_in (List.mem_of_getElem? (i := 321) (by decide +kernel)) (by decide +kernel)
theorem mw_322 : Cond.static yX1_opposite ∈ tb := tb_in (List.mem_of_getElem? (i := 322) (by decide +kernel)) (by decide +kernel)
theorem mw_323 : Cond.code yX1_opposite cX1_opposite 1 (some FieldType.int) ∈ tb := tb_in (List.mem_of_getElem? (i := 323) (by decide +kernel)) (by decide +kernel)
theorem mw_324 : Cond.methodLink "RafterPlaces" 182 yX1_limitBy ∈ tb := tb_in (List.mem_of_getElem? (i := 324) (by decide +kernel)) (by decide +kernel)
theorem mw_326 : Cond.instanceMethod yX1_limitBy ∈ tb := tb_in (List.mem_of_getElem? (i := 326) (by decide +kernel)) (by decide +kernel)
theorem mw_327 : Cond.code yX1_limitBy cX1_limitBy 9 (some (FieldType.object "RafterPlaces$Fraction")) ∈ tb := tb_in (List.mem_of_getElem? (i := 327) (by decide +kernel)) (by decide +kernel)
theorem mw_328 : Cond.methodLink "RafterPlaces" 172 yX0_plus ∈ tb := tb_in (List.mem_of_getElem? (i := 328) (by decide +kernel)) (by decide +kernel)
theorem mw_329 : Cond.instanceMethod yX0_plus ∈ tb := tb_in (List.mem_of_getElem? (i := 329) (by decide +kernel)) (by decide +kernel)
theorem mw_330 : Cond.selects "RafterPlaces$Fraction" yX0_plus yX0_plus ∈ tb := tb_in (List.mem_of_getElem? (i := 330) (by decide +kernel)) (by decide +kernel)
theorem mw_331 : Cond.code yX0_plus cX0_plus 2 (some (FieldType.object "RafterPlaces$Fraction")) ∈ tb := tb_in (List.mem_of_getElem? (i := 331) (by decide +kernel)) (by decide +kernel)
theorem mw_332 : Cond.classLink "RafterPlaces$Fraction" 8 "RafterPlaces$Fraction" ∈ tb := tb_in (List.mem_of_getElem? (i := 332) (by decide +kernel)) (by decide +kernel)
theorem mw_333 : Cond.methodLink "RafterPlaces$Fraction" 20 yX0_init ∈ tb := tb_in (List.mem_of_getElem? (i := 333) (by decide +kernel)) (by decide +kernel)
theorem mw_334 : Cond.methodLink "RafterPlaces" 176 yX0_dividedBy ∈ tb := tb_in (List.mem_of_getElem? (i := 334) (by decide +kernel)) (by decide +kernel)
theorem mw_335 : Cond.instanceMethod yX0_dividedBy ∈ tb := tb_in (List.mem_of_getElem? (i := 335) (by decide +kernel)) (by decide +kernel)
theorem mw_336 : Cond.selects "RafterPlaces$Fraction" yX0_dividedBy yX0_dividedBy ∈ tb := tb_in (List.mem_of_getElem? (i := 336) (by decide +kernel)) (by decide +kernel)
theorem mw_337 : Cond.code yX0_dividedBy cX0_dividedBy 2 (some (FieldType.object "RafterPlaces$Fraction")) ∈ tb := tb_in (List.mem_of_getElem? (i := 337) (by decide +kernel)) (by decide +kernel)
theorem mw_338 : Cond.methodLink "RafterPlaces" 179 yX1_wayToOpposite ∈ tb := tb_in (List.mem_of_getElem? (i := 338) (by decide +kernel)) (by decide +kernel)
theorem mw_340 : Cond.instanceMethod yX1_wayToOpposite ∈ tb := tb_in (List.mem_of_getElem? (i := 340) (by decide +kernel)) (by decide +kernel)
theorem mw_341 : Cond.code yX1_wayToOpposite cX1_wayToOpposite 2 (some FieldType.long) ∈ tb := tb_in (List.mem_of_getElem? (i := 341) (by decide +kernel)) (by decide +kernel)
theorem mw_342 : Cond.methodLink "RafterPlaces" 106 yX0_times_ ∈ tb := tb_in (List.mem_of_getElem? (i := 342) (by decide +kernel)) (by decide +kernel)
theorem mw_343 : Cond.instanceMethod yX0_times_ ∈ tb := tb_in (List.mem_of_getElem? (i := 343) (by decide +kernel)) (by decide +kernel)
theorem mw_344 : Cond.selects "RafterPlaces$Fraction" yX0_times_ yX0_times_ ∈ tb := tb_in (List.mem_of_getElem? (i := 344) (by decide +kernel)) (by decide +kernel)
theorem mw_345 : Cond.code yX0_times_ cX0_times_ 3 (some (FieldType.object "RafterPlaces$Fraction")) ∈ tb := tb_in (List.mem_of_getElem? (i := 345) (by decide +kernel)) (by decide +kernel)
theorem mw_346 : Cond.methodLink "RafterPlacesLaw" 113 yL_against ∈ tb := tb_in (List.mem_of_getElem? (i := 346) (by decide +kernel)) (by decide +kernel)
theorem mw_347 : Cond.static yL_against ∈ tb := tb_in (List.mem_of_getElem? (i := 347) (by decide +kernel)) (by decide +kernel)
theorem mw_349 : Cond.methodLink "RafterPlacesLaw" 43 yX1_against ∈ tb := tb_in (List.mem_of_getElem? (i := 349) (by decide +kernel)) (by decide +kernel)
theorem mw_350 : Cond.instanceMethod yX1_against ∈ tb := tb_in (List.mem_of_getElem? (i := 350) (by decide +kernel)) (by decide +kernel)
theorem mw_351 : Cond.selects "RafterPlaces" yX1_against yX1_against ∈ tb := tb_in (List.mem_of_getElem? (i := 351) (by decide +kernel)) (by decide +kernel)
theorem mw_352 : Cond.code yX1_against cX1_against 4 (some FieldType.int) ∈ tb := tb_in (List.mem_of_getElem? (i := 352) (by decide +kernel)) (by decide +kernel)
theorem mw_353 : Cond.methodLink "RafterPlacesLaw" 116 yL_length ∈ tb := tb_in (List.mem_of_getElem? (i := 353) (by decide +kernel)) (by decide +kernel)
theorem mw_354 : Cond.static yL_length ∈ tb := tb_in (List.mem_of_getElem? (i := 354) (by decide +kernel)) (by decide +kernel)
theorem mw_356 : Cond.methodLink "RafterPlacesLaw" 46 yX1_length ∈ tb := tb_in (List.mem_of_getElem? (i := 356) (by decide +kernel)) (by decide +kernel)
theorem mw_357 : Cond.instanceMethod yX1_length ∈ tb := tb_in (List.mem_of_getElem? (i := 357) (by decide +kernel)) (by decide +kernel)
theorem mw_358 : Cond.selects "RafterPlaces" yX1_length yX1_length ∈ tb := tb_in (List.mem_of_getElem? (i := 358) (by decide +kernel)) (by decide +kernel)
theorem mw_359 : Cond.code yX1_length cX1_length 9 (some FieldType.long) ∈ tb := tb_in (List.mem_of_getElem? (i := 359) (by decide +kernel)) (by decide +kernel)
theorem mw_360 : Cond.methodLink "RafterPlaces" 84 yX1_squareAlongSlope ∈ tb := tb_in (List.mem_of_getElem? (i := 360) (by decide +kernel)) (by decide +kernel)
theorem mw_362 : Cond.instanceMethod yX1_squareAlongSlope ∈ tb := tb_in (List.mem_of_getElem? (i := 362) (by decide +kernel)) (by decide +kernel)
theorem mw_363 : Cond.code yX1_squareAlongSlope cX1_squareAlongSlope 4 (some (FieldType.object "RafterPlaces$Fraction")) ∈ tb := tb_in (List.mem_of_getElem? (i := 363) (by decide +kernel)) (by decide +kernel)
theorem mw_364 : Cond.methodLink "RafterPlaces" 186 yX0_inverse ∈ tb := tb_in (List.mem_of_getElem? (i := 364) (by decide +kernel)) (by decide +kernel)
theorem mw_365 : Cond.instanceMethod yX0_inverse ∈ tb := tb_in (List.mem_of_getElem? (i := 365) (by decide +kernel)) (by decide +kernel)
theorem mw_366 : Cond.selects "RafterPlaces$Fraction" yX0_inverse yX0_inverse ∈ tb := tb_in (List.mem_of_getElem? (i := 366) (by decide +kernel)) (by decide +kernel)
theorem mw_367 : Cond.code yX0_inverse cX0_inverse 1 (some (FieldType.object "RafterPlaces$Fraction")) ∈ tb := tb_in (List.mem_of_getElem? (i := 367) (by decide +kernel)) (by decide +kernel)
theorem mw_368 : Cond.methodLink "RafterPlaces" 189 yX0_times ∈ tb := tb_in (List.mem_of_getElem? (i := 368) (by decide +kernel)) (by decide +kernel)
theorem mw_369 : Cond.instanceMethod yX0_times ∈ tb := tb_in (List.mem_of_getElem? (i := 369) (by decide +kernel)) (by decide +kernel)
theorem mw_370 : Cond.selects "RafterPlaces$Fraction" yX0_times yX0_times ∈ tb := tb_in (List.mem_of_getElem? (i := 370) (by decide +kernel)) (by decide +kernel)
theorem mw_371 : Cond.code yX0_times cX0_times 2 (some (FieldType.object "RafterPlaces$Fraction")) ∈ tb := tb_in (List.mem_of_getElem? (i := 371) (by decide +kernel)) (by decide +kernel)
theorem mw_372 : Cond.methodLink "RafterPlaces" 88 yX0_cutOff ∈ tb := tb_in (List.mem_of_getElem? (i := 372) (by decide +kernel)) (by decide +kernel)
theorem mw_373 : Cond.instanceMethod yX0_cutOff ∈ tb := tb_in (List.mem_of_getElem? (i := 373) (by decide +kernel)) (by decide +kernel)
theorem mw_374 : Cond.selects "RafterPlaces$Fraction" yX0_cutOff yX0_cutOff ∈ tb := tb_in (List.mem_of_getElem? (i := 374) (by decide +kernel)) (by decide +kernel)
theorem mw_375 : Cond.code yX0_cutOff cX0_cutOff 1 (some FieldType.long) ∈ tb := tb_in (List.mem_of_getElem? (i := 375) (by decide +kernel)) (by decide +kernel)
theorem mw_376 : Cond.methodLink "RafterPlaces" 92 yX1_root ∈ tb := tb_in (List.mem_of_getElem? (i := 376) (by decide +kernel)) (by decide +kernel)
theorem mw_377 : Cond.static yX1_root ∈ tb := tb_in (List.mem_of_getElem? (i := 377) (by decide +kernel)) (by decide +kernel)
theorem mw_378 : Cond.code yX1_root cX1_root 7 (some FieldType.long) ∈ tb := tb_in (List.mem_of_getElem? (i := 378) (by decide +kernel)) (by decide +kernel)
theorem mw_379 : Cond.methodLink "RafterPlacesLaw" 119 yL_tangent ∈ tb := tb_in (List.mem_of_getElem? (i := 379) (by decide +kernel)) (by decide +kernel)
theorem mw_380 : Cond.static yL_tangent ∈ tb := tb_in (List.mem_of_getElem? (i := 380) (by decide +kernel)) (by decide +kernel)
theorem mw_382 : Cond.methodLink "RafterPlacesLaw" 49 yX1_tangent ∈ tb := tb_in (List.mem_of_getElem? (i := 382) (by decide +kernel)) (by decide +kernel)
theorem mw_383 : Cond.instanceMethod yX1_tangent ∈ tb := tb_in (List.mem_of_getElem? (i := 383) (by decide +kernel)) (by decide +kernel)
theorem mw_384 : Cond.selects "RafterPlaces" yX1_tangent yX1_tangent ∈ tb := tb_in (List.mem_of_getElem? (i := 384) (by decide +kernel)) (by decide +kernel)
theorem mw_385 : Cond.code yX1_tangent cX1_tangent 6 (some FieldType.long) ∈ tb := tb_in (List.mem_of_getElem? (i := 385) (by decide +kernel)) (by decide +kernel)
theorem mw_386 : Cond.methodLink "RafterPlaces" 102 yX1_cutTangent ∈ tb := tb_in (List.mem_of_getElem? (i := 386) (by decide +kernel)) (by decide +kernel)
theorem mw_388 : Cond.instanceMethod yX1_cutTangent ∈ tb := tb_in (List.mem_of_getElem? (i := 388) (by decide +kernel)) (by decide +kernel)
theorem mw_389 : Cond.code yX1_cutTangent cX1_cutTangent 7 (some (FieldType.object "RafterPlaces$Fraction")) ∈ tb := tb_in (List.mem_of_getElem? (i := 389) (by decide +kernel)) (by decide +kernel)
theorem mw_390 : Cond.methodLink "RafterPlacesLaw" 123 yL_mouth ∈ tb := tb_in (List.mem_of_getElem? (i := 390) (by decide +kernel)) (by decide +kernel)
theorem mw_391 : Cond.static yL_mouth ∈ tb := tb_in (List.mem_of_getElem? (i := 391) (by decide +kernel)) (by decide +kernel)
theorem mw_393 : Cond.methodLink "RafterPlacesLaw" 53 yX1_mouth ∈ tb := tb_in (List.mem_of_getElem? (i := 393) (by decide +kernel)) (by decide +kernel)
theorem mw_394 : Cond.instanceMethod yX1_mouth ∈ tb := tb_in (List.mem_of_getElem? (i := 394) (by decide +kernel)) (by decide +kernel)
theorem mw_395 : Cond.selects "RafterPlaces" yX1_mouth yX1_mouth ∈ tb := tb_in (List.mem_of_getElem? (i := 395) (by decide +kernel)) (by decide +kernel)
theorem mw_396 : Cond.code yX1_mouth cX1_mouth 5 (some FieldType.long) ∈ tb := tb_in (List.mem_of_getElem? (i := 396) (by decide +kernel)) (by decide +kernel)
theorem mw_397 : Cond.methodLink "RafterPlacesLaw" 126 yL_hip ∈ tb := tb_in (List.mem_of_getElem? (i := 397) (by decide +kernel)) (by decide +kernel)
theorem mw_398 : Cond.static yL_hip ∈ tb := tb_in (List.mem_of_getElem? (i := 398) (by decide +kernel)) (by decide +kernel)
theorem mw_400 : Cond.methodLink "RafterPlacesLaw" 56 yX1_hip ∈ tb := tb_in (List.mem_of_getElem? (i := 400) (by decide +kernel)) (by decide +kernel)
theorem mw_401 : Cond.instanceMethod yX1_hip ∈ tb := tb_in (List.mem_of_getElem? (i := 401) (by decide +kernel)) (by decide +kernel)
theorem mw_402 : Cond.selects "RafterPlaces" yX1_hip yX1_hip ∈ tb := tb_in (List.mem_of_getElem? (i := 402) (by decide +kernel)) (by decide +kernel)
theorem mw_403 : Cond.code yX1_hip cX1_hip 5 (some FieldType.long) ∈ tb := tb_in (List.mem_of_getElem? (i := 403) (by decide +kernel)) (by decide +kernel)
theorem mw_404 : Cond.methodLink "RafterPlaces" 110 yX1_sideBehind ∈ tb := tb_in (List.mem_of_getElem? (i := 404) (by decide +kernel)) (by decide +kernel)
theorem mw_405 : Cond.static yX1_sideBehind ∈ tb := tb_in (List.mem_of_getElem? (i := 405) (by decide +kernel)) (by decide +kernel)
theorem mw_406 : Cond.code yX1_sideBehind cX1_sideBehind 1 (some FieldType.int) ∈ tb := tb_in (List.mem_of_getElem? (i := 406) (by decide +kernel)) (by decide +kernel)
theorem mw_407 : Cond.methodLink "RafterPlaces" 114 yX1_inAtPeak ∈ tb := tb_in (List.mem_of_getElem? (i := 407) (by decide +kernel)) (by decide +kernel)
theorem mw_409 : Cond.instanceMethod yX1_inAtPeak ∈ tb := tb_in (List.mem_of_getElem? (i := 409) (by decide +kernel)) (by decide +kernel)
theorem mw_410 : Cond.code yX1_inAtPeak cX1_inAtPeak 2 (some (FieldType.object "RafterPlaces$Fraction")) ∈ tb := tb_in (List.mem_of_getElem? (i := 410) (by decide +kernel)) (by decide +kernel)
theorem mw_411 : Cond.methodLink "RafterPlaces" 118 yX1_peakHeight ∈ tb := tb_in (List.mem_of_getElem? (i := 411) (by decide +kernel)) (by decide +kernel)
theorem mw_413 : Cond.instanceMethod yX1_peakHeight ∈ tb := tb_in (List.mem_of_getElem? (i := 413) (by decide +kernel)) (by decide +kernel)
theorem mw_414 : Cond.code yX1_peakHeight cX1_peakHeight 5 (some (FieldType.object "RafterPlaces$Fraction")) ∈ tb := tb_in (List.mem_of_getElem? (i := 414) (by decide +kernel)) (by decide +kernel)
theorem mw_415 : Cond.methodLink "RafterPlacesLaw" 130 yL_peak ∈ tb := tb_in (List.mem_of_getElem? (i := 415) (by decide +kernel)) (by decide +kernel)
theorem mw_416 : Cond.static yL_peak ∈ tb := tb_in (List.mem_of_getElem? (i := 416) (by decide +kernel)) (by decide +kernel)
theorem mw_418 : Cond.methodLink "RafterPlacesLaw" 60 yX1_peak ∈ tb := tb_in (List.mem_of_getElem? (i := 418) (by decide +kernel)) (by decide +kernel)
theorem mw_419 : Cond.instanceMethod yX1_peak ∈ tb := tb_in (List.mem_of_getElem? (i := 419) (by decide +kernel)) (by decide +kernel)
theorem mw_420 : Cond.selects "RafterPlaces" yX1_peak yX1_peak ∈ tb := tb_in (List.mem_of_getElem? (i := 420) (by decide +kernel)) (by decide +kernel)
theorem mw_421 : Cond.code yX1_peak cX1_peak 2 (some FieldType.long) ∈ tb := tb_in (List.mem_of_getElem? (i := 421) (by decide +kernel)) (by decide +kernel)
theorem mw_422 : Cond.methodLink "RafterPlacesLaw" 133 yL_ridge ∈ tb := tb_in (List.mem_of_getElem? (i := 422) (by decide +kernel)) (by decide +kernel)
theorem mw_423 : Cond.static yL_ridge ∈ tb := tb_in (List.mem_of_getElem? (i := 423) (by decide +kernel)) (by decide +kernel)
theorem mw_425 : Cond.methodLink "RafterPlacesLaw" 64 yX1_ridge ∈ tb := tb_in (List.mem_of_getElem? (i := 425) (by decide +kernel)) (by decide +kernel)
theorem mw_426 : Cond.instanceMethod yX1_ridge ∈ tb := tb_in (List.mem_of_getElem? (i := 426) (by decide +kernel)) (by decide +kernel)
theorem mw_427 : Cond.selects "RafterPlaces" yX1_ridge yX1_ridge ∈ tb := tb_in (List.mem_of_getElem? (i := 427) (by decide +kernel)) (by decide +kernel)
theorem mw_428 : Cond.code yX1_ridge cX1_ridge 3 (some FieldType.long) ∈ tb := tb_in (List.mem_of_getElem? (i := 428) (by decide +kernel)) (by decide +kernel)
theorem mw_429 : Cond.methodLink "RafterPlaces" 122 yX1_ridgeBound ∈ tb := tb_in (List.mem_of_getElem? (i := 429) (by decide +kernel)) (by decide +kernel)
theorem mw_431 : Cond.instanceMethod yX1_ridgeBound ∈ tb := tb_in (List.mem_of_getElem? (i := 431) (by decide +kernel)) (by decide +kernel)
theorem mw_432 : Cond.code yX1_ridgeBound cX1_ridgeBound 2 (some (FieldType.object "RafterPlaces$Fraction")) ∈ tb := tb_in (List.mem_of_getElem? (i := 432) (by decide +kernel)) (by decide +kernel)
theorem mw_433 : Cond.methodLink "RafterPlaces" 191 yX0_takenFrom ∈ tb := tb_in (List.mem_of_getElem? (i := 433) (by decide +kernel)) (by decide +kernel)
theorem mw_434 : Cond.instanceMethod yX0_takenFrom ∈ tb := tb_in (List.mem_of_getElem? (i := 434) (by decide +kernel)) (by decide +kernel)
theorem mw_435 : Cond.selects "RafterPlaces$Fraction" yX0_takenFrom yX0_takenFrom ∈ tb := tb_in (List.mem_of_getElem? (i := 435) (by decide +kernel)) (by decide +kernel)
theorem mw_436 : Cond.code yX0_takenFrom cX0_takenFrom 3 (some (FieldType.object "RafterPlaces$Fraction")) ∈ tb := tb_in (List.mem_of_getElem? (i := 436) (by decide +kernel)) (by decide +kernel)
theorem mw_437 : Cond.methodLink "RafterPlacesLaw" 137 yL_area ∈ tb := tb_in (List.mem_of_getElem? (i := 437) (by decide +kernel)) (by decide +kernel)
theorem mw_438 : Cond.static yL_area ∈ tb := tb_in (List.mem_of_getElem? (i := 438) (by decide +kernel)) (by decide +kernel)
theorem mw_440 : Cond.methodLink "RafterPlacesLaw" 68 yX1_area ∈ tb := tb_in (List.mem_of_getElem? (i := 440) (by decide +kernel)) (by decide +kernel)
theorem mw_441 : Cond.instanceMethod yX1_area ∈ tb := tb_in (List.mem_of_getElem? (i := 441) (by decide +kernel)) (by decide +kernel)
theorem mw_442 : Cond.selects "RafterPlaces" yX1_area yX1_area ∈ tb := tb_in (List.mem_of_getElem? (i := 442) (by decide +kernel)) (by decide +kernel)
theorem mw_443 : Cond.code yX1_area cX1_area 3 (some FieldType.long) ∈ tb := tb_in (List.mem_of_getElem? (i := 443) (by decide +kernel)) (by decide +kernel)
theorem mw_444 : Cond.methodLink "RafterPlaces" 125 yX1_twiceArea ∈ tb := tb_in (List.mem_of_getElem? (i := 444) (by decide +kernel)) (by decide +kernel)
theorem mw_446 : Cond.instanceMethod yX1_twiceArea ∈ tb := tb_in (List.mem_of_getElem? (i := 446) (by decide +kernel)) (by decide +kernel)
theorem mw_447 : Cond.code yX1_twiceArea cX1_twiceArea 5 (some (FieldType.object "RafterPlaces$Fraction")) ∈ tb := tb_in (List.mem_of_getElem? (i := 447) (by decide +kernel)) (by decide +kernel)
theorem mw_448 : Cond.constantLong "RafterPlaces" 194 (2) ∈ tb := tb_in (List.mem_of_getElem? (i := 448) (by decide +kernel)) (by decide +kernel)
theorem mw_449 : Cond.methodLink "RafterPlacesLaw" 140 yL_batten ∈ tb := tb_in (List.mem_of_getElem? (i := 449) (by decide +kernel)) (by decide +kernel)
theorem mw_450 : Cond.static yL_batten ∈ tb := tb_in (List.mem_of_getElem? (i := 450) (by decide +kernel)) (by decide +kernel)
theorem mw_452 : Cond.methodLink "RafterPlacesLaw" 71 yX1_batten ∈ tb := tb_in (List.mem_of_getElem? (i := 452) (by decide +kernel)) (by decide +kernel)
theorem mw_453 : Cond.instanceMethod yX1_batten ∈ tb := tb_in (List.mem_of_getElem? (i := 453) (by decide +kernel)) (by decide +kernel)
theorem mw_454 : Cond.selects "RafterPlaces" yX1_batten yX1_batten ∈ tb := tb_in (List.mem_of_getElem? (i := 454) (by decide +kernel)) (by decide +kernel)
theorem mw_455 : Cond.code yX1_batten cX1_batten 6 (some FieldType.int) ∈ tb := tb_in (List.mem_of_getElem? (i := 455) (by decide +kernel)) (by decide +kernel)
theorem mw_456 : Cond.classLink "RafterPlacesLaw" 75 "RafterPlacesModel" ∈ tb := tb_in (List.mem_of_getElem? (i := 456) (by decide +kernel)) (by decide +kernel)
theorem mw_457 : Cond.instantiable "RafterPlacesModel" 8 ∈ tb := tb_in (List.mem_of_getElem? (i := 457) (by decide +kernel)) (by decide +kernel)
theorem mw_458 : Cond.methodLink "RafterPlacesLaw" 77 yX2_init ∈ tb := tb_in (List.mem_of_getElem? (i := 458) (by decide +kernel)) (by decide +kernel)
theorem mw_459 : Cond.instanceMethod yX2_init ∈ tb := tb_in (List.mem_of_getElem? (i := 459) (by decide +kernel)) (by decide +kernel)
theorem mw_460 : Cond.code yX2_init cX2_init 2 none ∈ tb := tb_in (List.mem_of_getElem? (i := 460) (by decide +kernel)) (by decide +kernel)
theorem mw_461 : Cond.methodLink "RafterPlacesModel" 1 Lib.objectInit ∈ tb := tb_in (List.mem_of_getElem? (i := 461) (by decide +kernel)) (by decide +kernel)
theorem mw_462 : Cond.constantLong "RafterPlacesModel" 7 (1000) ∈ tb := tb_in (List.mem_of_getElem? (i := 462) (by decide +kernel)) (by decide +kernel)
theorem mw_463 : Cond.constantLong "RafterPlacesModel" 15 (600) ∈ tb := tb_in (List.mem_of_getElem? (i := 463) (by decide +kernel)) (by decide +kernel)
theorem mw_464 : Cond.fieldLink "RafterPlacesModel" 31 "RafterPlacesModel" "code" "I" ∈ tb := tb_in (List.mem_of_getElem? (i := 464) (by decide +kernel)) (by decide +kernel)
theorem mw_465 : Cond.fieldLink "RafterPlacesModel" 9 "RafterPlacesModel" "alongX" "J" ∈ tb := tb_in (List.mem_of_getElem? (i := 465) (by decide +kernel)) (by decide +kernel)
theorem mw_466 : Cond.fieldLink "RafterPlacesModel" 17 "RafterPlacesModel" "alongY" "J" ∈ tb := tb_in (List.mem_of_getElem? (i := 466) (by decide +kernel)) (by decide +kernel)
theorem mw_467 : Cond.fieldLink "RafterPlacesModel" 20 "RafterPlacesModel" "up" "[J" ∈ tb := tb_in (List.mem_of_getElem? (i := 467) (by decide +kernel)) (by decide +kernel)
theorem mw_468 : Cond.fieldLink "RafterPlacesModel" 24 "RafterPlacesModel" "out" "[J" ∈ tb := tb_in (List.mem_of_getElem? (i := 468) (by decide +kernel)) (by decide +kernel)
theorem mw_469 : Cond.fieldLink "RafterPlacesModel" 27 "RafterPlacesModel" "gables" "[Z" ∈ tb := tb_in (List.mem_of_getElem? (i := 469) (by decide +kernel)) (by decide +kernel)
theorem mw_470 : Cond.fieldLink "RafterPlacesModel" 35 "RafterPlacesModel" "above" "J" ∈ tb := tb_in (List.mem_of_getElem? (i := 470) (by decide +kernel)) (by decide +kernel)
theorem mw_471 : Cond.fieldLink "RafterPlacesModel" 38 "RafterPlacesModel" "below" "J" ∈ tb := tb_in (List.mem_of_getElem? (i := 471) (by decide +kernel)) (by decide +kernel)
theorem mw_472 : Cond.lays "RafterPlacesModel" "RafterPlacesModel" "code" "I" ∈ tb := tb_in (List.mem_of_getElem? (i := 472) (by decide +kernel)) (by decide +kernel)
theorem mw_474 : Cond.lays "RafterPlacesModel" "RafterPlacesModel" "alongX" "J" ∈ tb := tb_in (List.mem_of_getElem? (i := 474) (by decide +kernel)) (by decide +kernel)
theorem mw_476 : Cond.lays "RafterPlacesModel" "RafterPlacesModel" "alongY" "J" ∈ tb := tb_in (List.mem_of_getElem? (i := 476) (by decide +kernel)) (by decide +kernel)
theorem mw_478 : Cond.laysFinal "RafterPlacesModel" "RafterPlacesModel" "up" "[J" ∈ tb := tb_in (List.mem_of_getElem? (i := 478) (by decide +kernel)) (by decide +kernel)
theorem mw_480 : Cond.laysFinal "RafterPlacesModel" "RafterPlacesModel" "out" "[J" ∈ tb := tb_in (List.mem_of_getElem? (i := 480) (by decide +kernel)) (by decide +kernel)
theorem mw_482 : Cond.laysFinal "RafterPlacesModel" "RafterPlacesModel" "gables" "[Z" ∈ tb := tb_in (List.mem_of_getElem? (i := 482) (by decide +kernel)) (by decide +kernel)
theorem mw_484 : Cond.lays "RafterPlacesModel" "RafterPlacesModel" "above" "J" ∈ tb := tb_in (List.mem_of_getElem? (i := 484) (by decide +kernel)) (by decide +kernel)
theorem mw_486 : Cond.lays "RafterPlacesModel" "RafterPlacesModel" "below" "J" ∈ tb := tb_in (List.mem_of_getElem? (i := 486) (by decide +kernel)) (by decide +kernel)
theorem mw_489 : Cond.arrayClass FieldType.long ∈ tb := tb_in (List.mem_of_getElem? (i := 489) (by decide +kernel)) (by decide +kernel)
theorem mw_490 : Cond.arrayClass FieldType.boolean ∈ tb := tb_in (List.mem_of_getElem? (i := 490) (by decide +kernel)) (by decide +kernel)
theorem mw_491 : Cond.methodLink "RafterPlacesLaw" 86 yX2_thrown ∈ tb := tb_in (List.mem_of_getElem? (i := 491) (by decide +kernel)) (by decide +kernel)
theorem mw_492 : Cond.instanceMethod yX2_thrown ∈ tb := tb_in (List.mem_of_getElem? (i := 492) (by decide +kernel)) (by decide +kernel)
theorem mw_493 : Cond.selects "RafterPlacesModel" yX2_thrown yX2_thrown ∈ tb := tb_in (List.mem_of_getElem? (i := 493) (by decide +kernel)) (by decide +kernel)
theorem mw_494 : Cond.code yX2_thrown cX2_thrown 1 (some FieldType.int) ∈ tb := tb_in (List.mem_of_getElem? (i := 494) (by decide +kernel)) (by decide +kernel)
theorem mw_495 : Cond.methodLink "RafterPlacesLaw" 85 yX2_outline ∈ tb := tb_in (List.mem_of_getElem? (i := 495) (by decide +kernel)) (by decide +kernel)
theorem mw_496 : Cond.instanceMethod yX2_outline ∈ tb := tb_in (List.mem_of_getElem? (i := 496) (by decide +kernel)) (by decide +kernel)
theorem mw_497 : Cond.selects "RafterPlacesModel" yX2_outline yX2_outline ∈ tb := tb_in (List.mem_of_getElem? (i := 497) (by decide +kernel)) (by decide +kernel)
theorem mw_498 : Cond.code yX2_outline cX2_outline 5 (some FieldType.boolean) ∈ tb := tb_in (List.mem_of_getElem? (i := 498) (by decide +kernel)) (by decide +kernel)
theorem mw_499 : Cond.constantLong "RafterPlacesModel" 45 (2000) ∈ tb := tb_in (List.mem_of_getElem? (i := 499) (by decide +kernel)) (by decide +kernel)
theorem mw_500 : Cond.methodLink "RafterPlacesModel" 47 yX2_isIn ∈ tb := tb_in (List.mem_of_getElem? (i := 500) (by decide +kernel)) (by decide +kernel)
theorem mw_501 : Cond.static yX2_isIn ∈ tb := tb_in (List.mem_of_getElem? (i := 501) (by decide +kernel)) (by decide +kernel)
theorem mw_502 : Cond.code yX2_isIn cX2_isIn 6 (some FieldType.boolean) ∈ tb := tb_in (List.mem_of_getElem? (i := 502) (by decide +kernel)) (by decide +kernel)
theorem mw_503 : Cond.methodLink "RafterPlacesLaw" 93 yX2_slope ∈ tb := tb_in (List.mem_of_getElem? (i := 503) (by decide +kernel)) (by decide +kernel)
theorem mw_504 : Cond.instanceMethod yX2_slope ∈ tb := tb_in (List.mem_of_getElem? (i := 504) (by decide +kernel)) (by decide +kernel)
theorem mw_505 : Cond.selects "RafterPlacesModel" yX2_slope yX2_slope ∈ tb := tb_in (List.mem_of_getElem? (i := 505) (by decide +kernel)) (by decide +kernel)
theorem mw_506 : Cond.code yX2_slope cX2_slope 7 (some FieldType.boolean) ∈ tb := tb_in (List.mem_of_getElem? (i := 506) (by decide +kernel)) (by decide +kernel)
theorem mw_507 : Cond.constantLong "RafterPlacesModel" 51 (20) ∈ tb := tb_in (List.mem_of_getElem? (i := 507) (by decide +kernel)) (by decide +kernel)
theorem mw_508 : Cond.methodLink "RafterPlacesModel" 41 yX2_put ∈ tb := tb_in (List.mem_of_getElem? (i := 508) (by decide +kernel)) (by decide +kernel)
theorem mw_510 : Cond.instanceMethod yX2_put ∈ tb := tb_in (List.mem_of_getElem? (i := 510) (by decide +kernel)) (by decide +kernel)
theorem mw_511 : Cond.code yX2_put cX2_put 11 none ∈ tb := tb_in (List.mem_of_getElem? (i := 511) (by decide +kernel)) (by decide +kernel)
theorem mw_512 : Cond.methodLink "RafterPlacesLaw" 97 yX2_gable ∈ tb := tb_in (List.mem_of_getElem? (i := 512) (by decide +kernel)) (by decide +kernel)
theorem mw_513 : Cond.instanceMethod yX2_gable ∈ tb := tb_in (List.mem_of_getElem? (i := 513) (by decide +kernel)) (by decide +kernel)
theorem mw_514 : Cond.selects "RafterPlacesModel" yX2_gable yX2_gable ∈ tb := tb_in (List.mem_of_getElem? (i := 514) (by decide +kernel)) (by decide +kernel)
theorem mw_515 : Cond.code yX2_gable cX2_gable 4 (some FieldType.boolean) ∈ tb := tb_in (List.mem_of_getElem? (i := 515) (by decide +kernel)) (by decide +kernel)
theorem mw_516 : Cond.methodLink "RafterPlacesLaw" 101 yX2_place ∈ tb := tb_in (List.mem_of_getElem? (i := 516) (by decide +kernel)) (by decide +kernel)
theorem mw_517 : Cond.instanceMethod yX2_place ∈ tb := tb_in (List.mem_of_getElem? (i := 517) (by decide +kernel)) (by decide +kernel)
theorem mw_518 : Cond.selects "RafterPlacesModel" yX2_place yX2_place ∈ tb := tb_in (List.mem_of_getElem? (i := 518) (by decide +kernel)) (by decide +kernel)
theorem mw_519 : Cond.code yX2_place cX2_place 7 (some FieldType.long) ∈ tb := tb_in (List.mem_of_getElem? (i := 519) (by decide +kernel)) (by decide +kernel)
theorem mw_520 : Cond.methodLink "RafterPlacesModel" 57 yX2_isInside ∈ tb := tb_in (List.mem_of_getElem? (i := 520) (by decide +kernel)) (by decide +kernel)
theorem mw_522 : Cond.instanceMethod yX2_isInside ∈ tb := tb_in (List.mem_of_getElem? (i := 522) (by decide +kernel)) (by decide +kernel)
theorem mw_523 : Cond.code yX2_isInside cX2_isInside 5 (some FieldType.boolean) ∈ tb := tb_in (List.mem_of_getElem? (i := 523) (by decide +kernel)) (by decide +kernel)
theorem mw_524 : Cond.methodLink "RafterPlacesModel" 61 yX2_lowest ∈ tb := tb_in (List.mem_of_getElem? (i := 524) (by decide +kernel)) (by decide +kernel)
theorem mw_526 : Cond.instanceMethod yX2_lowest ∈ tb := tb_in (List.mem_of_getElem? (i := 526) (by decide +kernel)) (by decide +kernel)
theorem mw_527 : Cond.code yX2_lowest cX2_lowest 9 (some FieldType.int) ∈ tb := tb_in (List.mem_of_getElem? (i := 527) (by decide +kernel)) (by decide +kernel)
theorem mw_528 : Cond.methodLink "RafterPlacesModel" 53 yX2_far ∈ tb := tb_in (List.mem_of_getElem? (i := 528) (by decide +kernel)) (by decide +kernel)
theorem mw_530 : Cond.instanceMethod yX2_far ∈ tb := tb_in (List.mem_of_getElem? (i := 530) (by decide +kernel)) (by decide +kernel)
theorem mw_531 : Cond.code yX2_far cX2_far 6 (some FieldType.long) ∈ tb := tb_in (List.mem_of_getElem? (i := 531) (by decide +kernel)) (by decide +kernel)
theorem mw_532 : Cond.methodLink "RafterPlacesModel" 65 yX2_told ∈ tb := tb_in (List.mem_of_getElem? (i := 532) (by decide +kernel)) (by decide +kernel)
theorem mw_534 : Cond.instanceMethod yX2_told ∈ tb := tb_in (List.mem_of_getElem? (i := 534) (by decide +kernel)) (by decide +kernel)
theorem mw_535 : Cond.code yX2_told cX2_told 2 (some FieldType.long) ∈ tb := tb_in (List.mem_of_getElem? (i := 535) (by decide +kernel)) (by decide +kernel)
theorem mw_536 : Cond.methodLink "RafterPlacesLaw" 104 yX2_face ∈ tb := tb_in (List.mem_of_getElem? (i := 536) (by decide +kernel)) (by decide +kernel)
theorem mw_537 : Cond.instanceMethod yX2_face ∈ tb := tb_in (List.mem_of_getElem? (i := 537) (by decide +kernel)) (by decide +kernel)
theorem mw_538 : Cond.selects "RafterPlacesModel" yX2_face yX2_face ∈ tb := tb_in (List.mem_of_getElem? (i := 538) (by decide +kernel)) (by decide +kernel)
theorem mw_539 : Cond.code yX2_face cX2_face 5 (some FieldType.int) ∈ tb := tb_in (List.mem_of_getElem? (i := 539) (by decide +kernel)) (by decide +kernel)
theorem mw_540 : Cond.methodLink "RafterPlacesLaw" 108 yX2_rafter ∈ tb := tb_in (List.mem_of_getElem? (i := 540) (by decide +kernel)) (by decide +kernel)
theorem mw_541 : Cond.instanceMethod yX2_rafter ∈ tb := tb_in (List.mem_of_getElem? (i := 541) (by decide +kernel)) (by decide +kernel)
theorem mw_542 : Cond.selects "RafterPlacesModel" yX2_rafter yX2_rafter ∈ tb := tb_in (List.mem_of_getElem? (i := 542) (by decide +kernel)) (by decide +kernel)
theorem mw_543 : Cond.code yX2_rafter cX2_rafter 4 (some FieldType.int) ∈ tb := tb_in (List.mem_of_getElem? (i := 543) (by decide +kernel)) (by decide +kernel)
theorem mw_544 : Cond.methodLink "RafterPlacesModel" 69 yX2_sideCode ∈ tb := tb_in (List.mem_of_getElem? (i := 544) (by decide +kernel)) (by decide +kernel)
theorem mw_546 : Cond.instanceMethod yX2_sideCode ∈ tb := tb_in (List.mem_of_getElem? (i := 546) (by decide +kernel)) (by decide +kernel)
theorem mw_547 : Cond.code yX2_sideCode cX2_sideCode 2 (some FieldType.int) ∈ tb := tb_in (List.mem_of_getElem? (i := 547) (by decide +kernel)) (by decide +kernel)
theorem mw_548 : Cond.constantLong "RafterPlacesModel" 76 (10000) ∈ tb := tb_in (List.mem_of_getElem? (i := 548) (by decide +kernel)) (by decide +kernel)
theorem mw_549 : Cond.methodLink "RafterPlacesModel" 73 yX2_width ∈ tb := tb_in (List.mem_of_getElem? (i := 549) (by decide +kernel)) (by decide +kernel)
theorem mw_551 : Cond.instanceMethod yX2_width ∈ tb := tb_in (List.mem_of_getElem? (i := 551) (by decide +kernel)) (by decide +kernel)
theorem mw_552 : Cond.code yX2_width cX2_width 2 (some FieldType.long) ∈ tb := tb_in (List.mem_of_getElem? (i := 552) (by decide +kernel)) (by decide +kernel)
theorem mw_553 : Cond.methodLink "RafterPlacesLaw" 112 yX2_end ∈ tb := tb_in (List.mem_of_getElem? (i := 553) (by decide +kernel)) (by decide +kernel)
theorem mw_554 : Cond.instanceMethod yX2_end ∈ tb := tb_in (List.mem_of_getElem? (i := 554) (by decide +kernel)) (by decide +kernel)
theorem mw_555 : Cond.selects "RafterPlacesModel" yX2_end yX2_end ∈ tb := tb_in (List.mem_of_getElem? (i := 555) (by decide +kernel)) (by decide +kernel)
theorem mw_556 : Cond.code yX2_end cX2_end 6 (some FieldType.long) ∈ tb := tb_in (List.mem_of_getElem? (i := 556) (by decide +kernel)) (by decide +kernel)
theorem mw_557 : Cond.methodLink "RafterPlacesModel" 85 yX2_rafterCode ∈ tb := tb_in (List.mem_of_getElem? (i := 557) (by decide +kernel)) (by decide +kernel)
theorem mw_559 : Cond.instanceMethod yX2_rafterCode ∈ tb := tb_in (List.mem_of_getElem? (i := 559) (by decide +kernel)) (by decide +kernel)
theorem mw_560 : Cond.code yX2_rafterCode cX2_rafterCode 5 (some FieldType.int) ∈ tb := tb_in (List.mem_of_getElem? (i := 560) (by decide +kernel)) (by decide +kernel)
theorem mw_561 : Cond.methodLink "RafterPlacesModel" 89 yX2_ending ∈ tb := tb_in (List.mem_of_getElem? (i := 561) (by decide +kernel)) (by decide +kernel)
theorem mw_563 : Cond.instanceMethod yX2_ending ∈ tb := tb_in (List.mem_of_getElem? (i := 563) (by decide +kernel)) (by decide +kernel)
theorem mw_564 : Cond.code yX2_ending cX2_ending 10 (some FieldType.int) ∈ tb := tb_in (List.mem_of_getElem? (i := 564) (by decide +kernel)) (by decide +kernel)
theorem mw_565 : Cond.methodLink "RafterPlacesModel" 81 yX2_ends ∈ tb := tb_in (List.mem_of_getElem? (i := 565) (by decide +kernel)) (by decide +kernel)
theorem mw_567 : Cond.instanceMethod yX2_ends ∈ tb := tb_in (List.mem_of_getElem? (i := 567) (by decide +kernel)) (by decide +kernel)
theorem mw_568 : Cond.code yX2_ends cX2_ends 10 (some FieldType.boolean) ∈ tb := tb_in (List.mem_of_getElem? (i := 568) (by decide +kernel)) (by decide +kernel)
theorem mw_569 : Cond.methodLink "RafterPlacesModel" 78 yX2_depth ∈ tb := tb_in (List.mem_of_getElem? (i := 569) (by decide +kernel)) (by decide +kernel)
theorem mw_571 : Cond.instanceMethod yX2_depth ∈ tb := tb_in (List.mem_of_getElem? (i := 571) (by decide +kernel)) (by decide +kernel)
theorem mw_572 : Cond.code yX2_depth cX2_depth 2 (some FieldType.long) ∈ tb := tb_in (List.mem_of_getElem? (i := 572) (by decide +kernel)) (by decide +kernel)
theorem mw_573 : Cond.methodLink "RafterPlacesLaw" 115 yX2_against ∈ tb := tb_in (List.mem_of_getElem? (i := 573) (by decide +kernel)) (by decide +kernel)
theorem mw_574 : Cond.instanceMethod yX2_against ∈ tb := tb_in (List.mem_of_getElem? (i := 574) (by decide +kernel)) (by decide +kernel)
theorem mw_575 : Cond.selects "RafterPlacesModel" yX2_against yX2_against ∈ tb := tb_in (List.mem_of_getElem? (i := 575) (by decide +kernel)) (by decide +kernel)
theorem mw_576 : Cond.code yX2_against cX2_against 4 (some FieldType.int) ∈ tb := tb_in (List.mem_of_getElem? (i := 576) (by decide +kernel)) (by decide +kernel)
theorem mw_577 : Cond.methodLink "RafterPlacesLaw" 118 yX2_length ∈ tb := tb_in (List.mem_of_getElem? (i := 577) (by decide +kernel)) (by decide +kernel)
theorem mw_578 : Cond.instanceMethod yX2_length ∈ tb := tb_in (List.mem_of_getElem? (i := 578) (by decide +kernel)) (by decide +kernel)
theorem mw_579 : Cond.selects "RafterPlacesModel" yX2_length yX2_length ∈ tb := tb_in (List.mem_of_getElem? (i := 579) (by decide +kernel)) (by decide +kernel)
theorem mw_580 : Cond.code yX2_length cX2_length 15 (some FieldType.long) ∈ tb := tb_in (List.mem_of_getElem? (i := 580) (by decide +kernel)) (by decide +kernel)
theorem mw_581 : Cond.constantLong "RafterPlacesModel" 92 (3000000000) ∈ tb := tb_in (List.mem_of_getElem? (i := 581) (by decide +kernel)) (by decide +kernel)
theorem mw_582 : Cond.methodLink "RafterPlacesLaw" 122 yX2_tangent ∈ tb := tb_in (List.mem_of_getElem? (i := 582) (by decide +kernel)) (by decide +kernel)
theorem mw_583 : Cond.instanceMethod yX2_tangent ∈ tb := tb_in (List.mem_of_getElem? (i := 583) (by decide +kernel)) (by decide +kernel)
theorem mw_584 : Cond.selects "RafterPlacesModel" yX2_tangent yX2_tangent ∈ tb := tb_in (List.mem_of_getElem? (i := 584) (by decide +kernel)) (by decide +kernel)
theorem mw_585 : Cond.code yX2_tangent cX2_tangent 7 (some FieldType.long) ∈ tb := tb_in (List.mem_of_getElem? (i := 585) (by decide +kernel)) (by decide +kernel)
theorem mw_586 : Cond.methodLink "RafterPlacesLaw" 125 yX2_mouth ∈ tb := tb_in (List.mem_of_getElem? (i := 586) (by decide +kernel)) (by decide +kernel)
theorem mw_587 : Cond.instanceMethod yX2_mouth ∈ tb := tb_in (List.mem_of_getElem? (i := 587) (by decide +kernel)) (by decide +kernel)
theorem mw_588 : Cond.selects "RafterPlacesModel" yX2_mouth yX2_mouth ∈ tb := tb_in (List.mem_of_getElem? (i := 588) (by decide +kernel)) (by decide +kernel)
theorem mw_589 : Cond.code yX2_mouth cX2_mouth 5 (some FieldType.long) ∈ tb := tb_in (List.mem_of_getElem? (i := 589) (by decide +kernel)) (by decide +kernel)
theorem mw_590 : Cond.methodLink "RafterPlacesLaw" 132 yX2_peak ∈ tb := tb_in (List.mem_of_getElem? (i := 590) (by decide +kernel)) (by decide +kernel)
theorem mw_591 : Cond.instanceMethod yX2_peak ∈ tb := tb_in (List.mem_of_getElem? (i := 591) (by decide +kernel)) (by decide +kernel)
theorem mw_592 : Cond.selects "RafterPlacesModel" yX2_peak yX2_peak ∈ tb := tb_in (List.mem_of_getElem? (i := 592) (by decide +kernel)) (by decide +kernel)
theorem mw_593 : Cond.code yX2_peak cX2_peak 2 (some FieldType.long) ∈ tb := tb_in (List.mem_of_getElem? (i := 593) (by decide +kernel)) (by decide +kernel)
theorem mw_594 : Cond.methodLink "RafterPlacesModel" 101 yX2_makePeak ∈ tb := tb_in (List.mem_of_getElem? (i := 594) (by decide +kernel)) (by decide +kernel)
theorem mw_596 : Cond.instanceMethod yX2_makePeak ∈ tb := tb_in (List.mem_of_getElem? (i := 596) (by decide +kernel)) (by decide +kernel)
theorem mw_597 : Cond.code yX2_makePeak cX2_makePeak 6 none ∈ tb := tb_in (List.mem_of_getElem? (i := 597) (by decide +kernel)) (by decide +kernel)
theorem mw_598 : Cond.methodLink "RafterPlacesModel" 94 yX2_top ∈ tb := tb_in (List.mem_of_getElem? (i := 598) (by decide +kernel)) (by decide +kernel)
theorem mw_600 : Cond.instanceMethod yX2_top ∈ tb := tb_in (List.mem_of_getElem? (i := 600) (by decide +kernel)) (by decide +kernel)
theorem mw_601 : Cond.code yX2_top cX2_top 6 (some FieldType.boolean) ∈ tb := tb_in (List.mem_of_getElem? (i := 601) (by decide +kernel)) (by decide +kernel)
theorem mw_602 : Cond.methodLink "RafterPlacesModel" 98 yX2_lesser ∈ tb := tb_in (List.mem_of_getElem? (i := 602) (by decide +kernel)) (by decide +kernel)
theorem mw_604 : Cond.instanceMethod yX2_lesser ∈ tb := tb_in (List.mem_of_getElem? (i := 604) (by decide +kernel)) (by decide +kernel)
theorem mw_605 : Cond.code yX2_lesser cX2_lesser 5 none ∈ tb := tb_in (List.mem_of_getElem? (i := 605) (by decide +kernel)) (by decide +kernel)
theorem mw_606 : Cond.methodLink "RafterPlacesLaw" 136 yX2_ridge ∈ tb := tb_in (List.mem_of_getElem? (i := 606) (by decide +kernel)) (by decide +kernel)
theorem mw_607 : Cond.instanceMethod yX2_ridge ∈ tb := tb_in (List.mem_of_getElem? (i := 607) (by decide +kernel)) (by decide +kernel)
theorem mw_608 : Cond.selects "RafterPlacesModel" yX2_ridge yX2_ridge ∈ tb := tb_in (List.mem_of_getElem? (i := 608) (by decide +kernel)) (by decide +kernel)
theorem mw_609 : Cond.code yX2_ridge cX2_ridge 5 (some FieldType.long) ∈ tb := tb_in (List.mem_of_getElem? (i := 609) (by decide +kernel)) (by decide +kernel)
theorem mw_610 : Cond.methodLink "RafterPlacesModel" 104 yX2_makeFar ∈ tb := tb_in (List.mem_of_getElem? (i := 610) (by decide +kernel)) (by decide +kernel)
theorem mw_612 : Cond.instanceMethod yX2_makeFar ∈ tb := tb_in (List.mem_of_getElem? (i := 612) (by decide +kernel)) (by decide +kernel)
theorem mw_613 : Cond.code yX2_makeFar cX2_makeFar 2 none ∈ tb := tb_in (List.mem_of_getElem? (i := 613) (by decide +kernel)) (by decide +kernel)
theorem mw_614 : Cond.methodLink "RafterPlacesLaw" 129 yX2_hip ∈ tb := tb_in (List.mem_of_getElem? (i := 614) (by decide +kernel)) (by decide +kernel)
theorem mw_615 : Cond.instanceMethod yX2_hip ∈ tb := tb_in (List.mem_of_getElem? (i := 615) (by decide +kernel)) (by decide +kernel)
theorem mw_616 : Cond.selects "RafterPlacesModel" yX2_hip yX2_hip ∈ tb := tb_in (List.mem_of_getElem? (i := 616) (by decide +kernel)) (by decide +kernel)
theorem mw_617 : Cond.code yX2_hip cX2_hip 5 (some FieldType.long) ∈ tb := tb_in (List.mem_of_getElem? (i := 617) (by decide +kernel)) (by decide +kernel)
theorem mw_618 : Cond.constantLong "RafterPlacesModel" 108 (3) ∈ tb := tb_in (List.mem_of_getElem? (i := 618) (by decide +kernel)) (by decide +kernel)
theorem mw_619 : Cond.methodLink "RafterPlacesLaw" 139 yX2_area ∈ tb := tb_in (List.mem_of_getElem? (i := 619) (by decide +kernel)) (by decide +kernel)
theorem mw_620 : Cond.instanceMethod yX2_area ∈ tb := tb_in (List.mem_of_getElem? (i := 620) (by decide +kernel)) (by decide +kernel)
theorem mw_621 : Cond.selects "RafterPlacesModel" yX2_area yX2_area ∈ tb := tb_in (List.mem_of_getElem? (i := 621) (by decide +kernel)) (by decide +kernel)
theorem mw_622 : Cond.code yX2_area cX2_area 19 (some FieldType.long) ∈ tb := tb_in (List.mem_of_getElem? (i := 622) (by decide +kernel)) (by decide +kernel)
theorem mw_623 : Cond.constantLong "RafterPlacesModel" 110 (2) ∈ tb := tb_in (List.mem_of_getElem? (i := 623) (by decide +kernel)) (by decide +kernel)
theorem mw_624 : Cond.methodLink "RafterPlacesLaw" 142 yX2_batten ∈ tb := tb_in (List.mem_of_getElem? (i := 624) (by decide +kernel)) (by decide +kernel)
theorem mw_625 : Cond.instanceMethod yX2_batten ∈ tb := tb_in (List.mem_of_getElem? (i := 625) (by decide +kernel)) (by decide +kernel)
theorem mw_626 : Cond.selects "RafterPlacesModel" yX2_batten yX2_batten ∈ tb := tb_in (List.mem_of_getElem? (i := 626) (by decide +kernel)) (by decide +kernel)
theorem mw_627 : Cond.code yX2_batten cX2_batten 14 (some FieldType.int) ∈ tb := tb_in (List.mem_of_getElem? (i := 627) (by decide +kernel)) (by decide +kernel)
theorem mw_628 : Cond.constantLong "RafterPlacesLaw" 78 (4294967295) ∈ tb := tb_in (List.mem_of_getElem? (i := 628) (by decide +kernel)) (by decide +kernel)
end
section
/-! the classes whose objects the worlds hold; the environment; heaps that only grow -/
abbrev cl0 : List vw_C := [(RX0, TX0, 2), (RX1, TX1, 3), (RX2, TX2, 8)]
abbrev En : Type := va_G × (ClassId × ClassId × ClassId)
abbrev tys0 (z : ClassId × ClassId × ClassId) : List (ClassId × FieldType) := [(z.1, .object "RafterPlaces$Fraction"), (z.2.1, .long), (z.2.2, .boolean)]
abbrev KK (g : En) (U : State) : Prop := va_K g.1 cl0 (tys0 g.2) U
abbrev PP (g : En) (ws : va_W) (H : Heap) : Prop := va_P g.1 cl0 ws H
def hxt (H H1 : Heap) : Prop := H.size ≤ H1.size ∧ ∀ q : Nat, q < H.size → H1[q]? = H[q]?
theorem hxt.rf {H : Heap} : hxt H H := ⟨Nat.le_refl _, fun _ _ => rfl⟩
theorem hxt.tr {H H1 H2 : Heap} (h : hxt H H1) (k : hxt H1 H2) : hxt H H2 := ⟨Nat.le_trans h.1 k.1, fun q hq => (k.2 q (Nat.lt_of_lt_of_le hq h.1)).trans (h.2 q hq)⟩
theorem PP.ext {g : En} {ws : va_W} {H H1 : Heap} (h : PP g ws H) (k : hxt H H1) : PP g ws H1 := fun i q hq => (h i q hq).kept (k.2 q.1 (h i q hq).lt)
theorem PP.cons {g : En} {ws : va_W} {H : Heap} {a : Nat × va_E} (h : va_at g.1 cl0 a H) (k : PP g ws H) : PP g (a :: ws) H := fun i q hq => match i, hq with
  | 0, hq => by cases hq; exact h
  | i + 1, hq => k i q hq
theorem PP.nil {g : En} {H : Heap} : PP g [] H := fun i q hq => by simp at hq
theorem PP.one {g : En} {H : Heap} {a : Nat × va_E} (h : va_at g.1 cl0 a H) : PP g [a] H := PP.cons h PP.nil
theorem PP.at {g : En} {ws : va_W} {H : Heap} (h : PP g ws H) (k : Nat) {a : Nat × va_E} (hk : ws[k]? = some a) : va_at g.1 cl0 a H := h k a hk
theorem tb_GG {c c' : Cond} (h : c' ∈ tb) : GoodIn (c :: tb) (c' :: tb) := fun w hw => by
  rcases List.mem_cons.mp hw with e | hw
  · exact ⟨List.mem_cons_of_mem _ (e ▸ h), good_of_word (e ▸ (List.mem_filter.mp h).2)⟩
  · exact ⟨List.mem_cons_of_mem _ hw, good_of_word (List.mem_filter.mp hw).2⟩
theorem tb_G1 {c w : Cond} (h : w ∈ tb) : w ∈ c :: tb ∧ ((w.onTables && w.keeps) = true ∨ ∃ ty, w = .arrayClass ty) := ⟨List.mem_cons_of_mem _ h, good_of_word (List.mem_filter.mp h).2⟩
theorem tb_GV {c : Cond} {own C : String} {idx nl : Nat} {y : MethodName} {cy : ByteArray} {ret : Option FieldType} (h1 : Cond.methodLink own idx y ∈ tb) (h2 : Cond.instanceMethod y ∈ tb) (h3 : Cond.selects C y y ∈ tb) (h4 : Cond.initialized C ∈ tb) (h5 : Cond.code y cy nl ret ∈ tb) : GoodIn (c :: tb) (wsV own idx C y (Cond.code y cy nl ret :: tb)) := fun w hw => by
  rcases List.mem_append.mp hw with hw | hw
  · simp only [List.mem_cons, List.not_mem_nil, or_false] at hw
    rcases hw with rfl | rfl | rfl | rfl
    · exact tb_G1 h1
    · exact tb_G1 h2
    · exact tb_G1 h3
    · exact tb_G1 h4
  · exact tb_GG h5 w hw
theorem tb_GS {c : Cond} {own : String} {idx nl : Nat} {y : MethodName} {cy : ByteArray} {ret : Option FieldType} (h1 : Cond.methodLink own idx y ∈ tb) (h2 : Cond.static y ∈ tb) (h4 : Cond.initialized own ∈ tb) (h5 : Cond.code y cy nl ret ∈ tb) : GoodIn (c :: tb) (wsS own idx y (Cond.code y cy nl ret :: tb)) := fun w hw => by
  rcases List.mem_append.mp hw with hw | hw
  · simp only [List.mem_cons, List.not_mem_nil, or_false] at hw
    rcases hw with rfl | rfl | rfl
    · exact tb_G1 h1
    · exact tb_G1 h2
    · exact tb_G1 h4
  · exact tb_GG h5 w hw
/-! contracts of methods that change no old cell -/
def pPc (g : En) (av : List Value) (G : Heap → Prop) (sz : Nat) : Array Value → State → Prop := fun v U => v = av.toArray ∧ U.heap.size = sz ∧ G U.heap ∧ KK g U
def pQ (post : Option Value → Heap → Prop) : Array Value → State → Outcome → State → Prop := fun _ st o t => ∃ v, o = .returned v ∧ hxt st.heap t.heap ∧ post v t.heap
def PM (l : Launch) (y : MethodName) (cy : ByteArray) (nl : Nat) (ret : Option FieldType) (rm : Room) (g : En) (av : List Value) (G : Heap → Prop) (mc ms : Nat) (post : Option Value → Heap → Prop) : Prop :=
  ∀ sz : Nat, Met l y (Cond.code y cy nl ret :: tb) rm (pPc g av G sz) (pQ post) mc ms (fun q => sz ≤ q)
theorem pPc_blind {g : En} {av : List Value} {G : Heap → Prop} {sz : Nat} : FrameBlind (pPc g av G sz) := fun a U f mk q => by
  obtain ⟨q0, q1, q2, qK⟩ := q
  exact ⟨q0, q1, q2, va_K.moved (u := U) (U := U.calling f mk a) (Vm.Alike.refl U.vm) qK⟩
/-- what a body knows -/
def CX (p : Program) (s : State) (m : MethodId) (args : Array Value) (meth : Method) (c : Code) (y : MethodName) (cy : ByteArray) (nl : Nat) (ret : Option FieldType) (g : En) : Prop :=
  p.tables.exec = Jvm.exec ∧ c.code = cy ∧ c.maxLocals = nl ∧ s.vm.findClass y.cls = some m.cls ∧ (∀ w ∈ Cond.code y cy nl ret :: tb, w.before args s = true) ∧ meth.sig.returnType = ret ∧ meth.locks = false ∧ KK g s ∧ (y.name = "<init>" → meth.name = "<init>") ∧ c.exceptionTable.isEmpty = true
theorem PM.of {l : Launch} {y : MethodName} {cy : ByteArray} {nl : Nat} {ret : Option FieldType} {rm : Room} {g : En} {av : List Value} {G : Heap → Prop} {mc ms : Nat} {post : Option Value → Heap → Prop} (hy : plainName y.cls = true) (hav : (lg_sl av).length ≤ nl)
    (body : ∀ (p : Program) (e : Env) (s : State) (m : MethodId) (below : List Frame) (meth : Method) (c : Code) (ls : Array Slot), CX p s m av.toArray meth c y cy nl ret g → G s.heap → lv_has ls nl (lv_args 0 av) →
      W p l e rm s m av.toArray below meth c s.heap [] 0 0 (MQ below (pQ post) av.toArray s mc ms (fun q => s.heap.size ≤ q)) (F0 m 0 ls [])) : PM l y cy nl ret rm g av G mc ms post := by
  intro sz
  refine Met.ofW (cc := cy) (maxL := nl) (ret := ret) hy rfl ?_
  intro p e s m args below meth c s₁ B hml hv
  obtain ⟨rfl, hsz, hG, hK⟩ := hv
  subst hsz
  have hts := atoms_spec (ws := Cond.code y cy nl ret :: tb) B.pre
  rw [lg_entry_eq]
  exact body p e s m below meth c _ ⟨B.exec, B.bytes, hml, findClass_of_methodNamed B.named, hts, B.returns, B.notSynchronized, hK, fun h => (name_of_methodNamed B.named B.method).1.trans h, B.noHandlers (hts _ List.mem_cons_self)⟩ hG (lv_entry av hav)
section PW
variable {p : Program} {l : Launch} {e : Env} {R : Room} {s : State} {m : MethodId} {args : Array Value} {below : List Frame} {meth : Method} {c : Code} {H : Heap} {locs : List Loc} {cells slots : Nat} {Q : State → Prop} {pc : Nat} {ls : Array Slot} {rest st0 : List Value} {g : En}
variable {y y' : MethodName} {cy cy' : ByteArray} {nl nl' : Nat} {ret ret' : Option FieldType}
theorem w_l {v v' : Int64} (h : v = v') (k : W p l e R s m args below meth c H locs cells slots Q (F0 m pc ls (.long v' :: rest))) : W p l e R s m args below meth c H locs cells slots Q (F0 m pc ls (.long v :: rest)) := h ▸ k
theorem w_i {v v' : Int32} (h : v = v') (k : W p l e R s m args below meth c H locs cells slots Q (F0 m pc ls (.int v' :: rest))) : W p l e R s m args below meth c H locs cells slots Q (F0 m pc ls (.int v :: rest)) := h ▸ k
variable {mc ms n idx : Nat} {post : Option Value → Heap → Prop} {a : Array Value} {rm : Room} {G : Heap → Prop} {b : Nat} {As : List Value} {C : String}
/-- calls -/
theorem p_call (hr : CallRun p l e R s m args below meth c H locs cells slots mc ms (F0 m pc ls st0) rest (pQ post a) (fun q => H.size ≤ q)) (hs : s.heap.size ≤ H.size)
    (kk : ∀ (v : Option Value) (H1 : Heap), hxt H H1 → post v H1 → W p l e R s m args below meth c H1 locs (cells + mc) (slots + ms) Q (F0 m (pc + 3) ls (v.toList ++ rest))) : W p l e R s m args below meth c H locs cells slots Q (F0 m pc ls st0) := by
  refine W.callX hr (fun x hx => Nat.le_trans hs hx) (fun v st₀ t h0 hq => ?_)
  obtain ⟨v', e1, e2, e3⟩ := hq
  cases e1
  rw [h0] at e2
  exact kk v t.heap e2 e3
theorem p_callV (X : CX p s m args meth c y cy nl ret g) (hM : PM l y' cy' nl' ret' rm g (.ref b :: As) G mc ms post)
    (hw : Cond.methodLink y.cls idx y' ∈ tb ∧ Cond.instanceMethod y' ∈ tb ∧ Cond.selects C y' y' ∈ tb ∧ Cond.initialized C ∈ tb ∧ Cond.code y' cy' nl' ret' ∈ tb)
    (hd : y'.cls = C ∧ y'.cls ≠ "java/lang/invoke/MethodHandle" ∧ y'.cls ≠ "java/lang/invoke/VarHandle" ∧ (parseMethodDescriptor y'.desc).map (fun d => d.parameters.length) = some n)
    (hrm : rm.cells = mc ∧ rm.slots = ms ∧ (rm.frames + 1 ≤ R.frames ∧ 8 + (nl' + 11) + rm.locals ≤ R.locals) ∧ cells + mc ≤ R.cells ∧ slots + ms ≤ R.slots)
    {ci : Nat} {fs : List Value} {q : vw_C} (hat : va_at g.1 cl0 (b, .inr (ci, fs)) H) (hci : cl0[ci]? = some q) (hq : q.1 = C)
    (hG : G H) (hs : s.heap.size ≤ H.size) (hn : As.length = n) (hls : ls.size = nl) (hst : st0 = As.reverse ++ .ref b :: rest) (hrest : (rest.map fun v => v.category).sum ≤ 8) (hdg : decode cy pc = .ok (.invokevirtual idx, 3))
    (kk : ∀ (v : Option Value) (H1 : Heap), hxt H H1 → post v H1 → W p l e R s m args below meth c H1 locs (cells + mc) (slots + ms) Q (F0 m (pc + 3) ls (v.toList ++ rest))) : W p l e R s m args below meth c H locs cells slots Q (F0 m pc ls st0) := by
  obtain ⟨hx, hb, hml, hown, hts, -, -, hK, -⟩ := X
  obtain ⟨h1, h2, h3, h4, h5⟩ := hw
  obtain ⟨r1, r2, r3, r4⟩ := hrm
  subst hq
  exact p_call (a := (Value.ref b :: As).toArray) (W.runV (C := q.1) (n := n) ⟨hx, hb, hml, hown, hts⟩ (hM H.size) (cwV n hts (tb_GV h1 h2 h3 h4 h5) rfl r1 r2 hd r3) ⟨pPc_blind, va_recv (q0 := 0) hK (PP.one hat) hci rfl, fun U hU hW => ⟨rfl, by rw [hU], by rw [hU]; exact hG, va_K.moved hW.alike hK⟩⟩ rfl hn hls hst (lv_room hrest) hdg r4) hs kk
theorem p_callS (X : CX p s m args meth c y cy nl ret g) (hM : PM l y' cy' nl' ret' rm g As G mc ms post)
    (hw : Cond.methodLink y.cls idx y' ∈ tb ∧ Cond.static y' ∈ tb ∧ Cond.initialized y.cls ∈ tb ∧ Cond.code y' cy' nl' ret' ∈ tb)
    (hd : y'.cls = y.cls ∧ y'.cls ≠ "java/lang/invoke/MethodHandle" ∧ y'.cls ≠ "java/lang/invoke/VarHandle" ∧ (parseMethodDescriptor y'.desc).map (fun d => d.parameters.length) = some n)
    (hrm : rm.cells = mc ∧ rm.slots = ms ∧ (rm.frames + 1 ≤ R.frames ∧ 8 + (nl' + 11) + rm.locals ≤ R.locals) ∧ cells + mc ≤ R.cells ∧ slots + ms ≤ R.slots)
    (hG : G H) (hs : s.heap.size ≤ H.size) (hn : As.length = n) (hls : ls.size = nl) (hst : st0 = As.reverse ++ rest) (hrest : (rest.map fun v => v.category).sum ≤ 8) (hdg : decode cy pc = .ok (.invokestatic idx, 3))
    (kk : ∀ (v : Option Value) (H1 : Heap), hxt H H1 → post v H1 → W p l e R s m args below meth c H1 locs (cells + mc) (slots + ms) Q (F0 m (pc + 3) ls (v.toList ++ rest))) : W p l e R s m args below meth c H locs cells slots Q (F0 m pc ls st0) := by
  obtain ⟨hx, hb, hml, hown, hts, -, -, hK, -⟩ := X
  obtain ⟨h1, h2, h4, h5⟩ := hw
  obtain ⟨r1, r2, r3, r4⟩ := hrm
  exact p_call (a := As.toArray) (W.runS (n := n) ⟨hx, hb, hml, hown, hts⟩ (hM H.size) (cwS n hts (tb_GS h1 h2 h4 h5) rfl r1 r2 hd r3) ⟨pPc_blind, fun U hU hW => ⟨rfl, by rw [hU], by rw [hU]; exact hG, va_K.moved hW.alike hK⟩⟩ rfl hn hls hst (lv_room hrest) hdg r4) hs kk
/-- a new object -/
theorem p_new (X : CX p s m args meth c y cy nl ret g) {C : String} {T : u_T} {N ci idx : Nat} (ty : Nat → FieldType) (hty : ∀ k, k < N → parseFieldDescriptor (T k).2.2.1 = some (ty k)) (hin : ∀ w ∈ u_ws C T N, w ∈ tb)
    (hw : Cond.classLink y.cls idx C ∈ tb ∧ Cond.instantiable C N ∈ tb ∧ Cond.initialized C ∈ tb) (hc : cl0[ci]? = some (C, T, N)) (fs : List Value) (hfs : ∀ j, j < N → defaultValue (ty j) = vp_V fs j) (hrm : cells + 1 ≤ R.cells ∧ slots + N ≤ R.slots) (hdg : decode cy pc = .ok (.new idx, 3))
    (kk : ∀ (q : Nat) (H1 : Heap), q = H.size → H1.size = H.size + 1 → hxt H H1 → va_at g.1 cl0 (q, .inr (ci, fs)) H1 → W p l e R s m args below meth c H1 locs (cells + 1) (slots + N) Q (F0 m (pc + 3) ls (.ref q :: rest))) : W p l e R s m args below meth c H locs cells slots Q (F0 m pc ls rest) := by
  obtain ⟨hx, hb, hml, hown, hts, -, -, hK, -⟩ := X
  have hts' : ∀ w ∈ tb, w.before args s = true := fun w h => hts w (List.mem_cons_of_mem _ h)
  have hKn := hK.1 ci _ hc
  refine W.newcK hx hb hown (hts' _ hw.1) (hts' _ hw.2.1) (hts' _ hw.2.2) rfl hdg hrm.1 hrm.2 hKn.2.1 rfl fun H1 kC hkC e1 z1 o1 => ?_
  exact kk H.size H1 rfl z1 ⟨by omega, o1⟩ ⟨_, hc, (u_born ty hts' hin hKn hkC e1 hty).to hfs⟩
/-- a field -/
theorem p_get (X : CX p s m args meth c y cy nl ret g) {ref C : String} {T : u_T} {N ci idx a : Nat} (hin : ∀ w ∈ u_ws C T N, w ∈ tb) {fs : List Value} (hat : va_at g.1 cl0 (a, .inr (ci, fs)) H) (hc : cl0[ci]? = some (C, T, N)) (k : Nat) (hk : k < N) (hl : Cond.fieldLink y.cls idx ref (T k).2.1 (T k).2.2.1 ∈ tb) (hsame : (T k).1 = ref) {v : Value} (hv : fs[k]? = some v) (hdg : decode cy pc = .ok (.getfield idx, 3))
    (kk : W p l e R s m args below meth c H locs cells slots Q (F0 m (pc + 3) ls (v :: rest))) : W p l e R s m args below meth c H locs cells slots Q (F0 m pc ls (.ref a :: rest)) := by
  obtain ⟨hx, hb, hml, hown, hts, -, -, hK, -⟩ := X
  have hts' : ∀ w ∈ tb, w.before args s = true := fun w h => hts w (List.mem_cons_of_mem _ h)
  exact va_get hx hb hts' hin hown hK (PP.one hat) 0 rfl hc k hk (hts' _ hl) (fun x h9 => by rw [← hsame]; exact h9) hv hdg kk
/-- an element of an array of fractions -/
theorem p_aald (X : CX p s m args meth c y cy nl ret g) {a k n : Nat} {f : Nat → Option Nat} (hat : va_at g.1 cl0 (a, .inl (g.2.1, n, .inr (.inr (.inr (.inr f))))) H) (hk : k < n) (hn : n < 2 ^ 31) {r : Nat} (hf : f k = some r) (hdg : decode cy pc = .ok (.aaload, 1))
    (kk : W p l e R s m args below meth c H locs cells slots Q (F0 m (pc + 1) ls (.ref r :: rest))) : W p l e R s m args below meth c H locs cells slots Q (F0 m pc ls (.int (nI k) :: .ref a :: rest)) := by
  obtain ⟨hx, hb, hml, hown, hts, -, -, hK, -⟩ := X
  refine va_aldq hx hb hK (PP.one hat) 0 0 rfl rfl (vp_in_nI hk hn) hdg ?_
  rw [nI_clamp (Nat.lt_trans hk hn), hf]
  exact kk
/-- ends -/
theorem p_lret (X : CX p s m args meth c y cy nl (some .long) g) {v : Int64} {free : Addr → Prop} (hxx : hxt s.heap H) (hp : post (some (.long v)) H) (hc : cells ≤ mc ∧ slots ≤ ms) (hdg : decode cy pc = .ok (.lreturn, 1)) :
    W p l e R s m args below meth c H [] cells slots (MQ below (pQ post) args s mc ms free) (F0 m pc ls [.long v]) := by
  obtain ⟨hx, hb, hml, hown, hts, hr, hlocks, hK, -⟩ := X
  refine W.widen hc.1 hc.2 ?_
  exact W.lret (v := v) hx hb hr (fun t ht hW => ⟨_, rfl, by rw [ht]; exact hxx, by rw [ht]; exact hp⟩) (fun q h => nomatch h) hdg hlocks
theorem p_iret (X : CX p s m args meth c y cy nl (some .int) g) {v : Int32} {free : Addr → Prop} (hxx : hxt s.heap H) (hp : post (some (.int v)) H) (hc : cells ≤ mc ∧ slots ≤ ms) (hdg : decode cy pc = .ok (.ireturn, 1)) :
    W p l e R s m args below meth c H [] cells slots (MQ below (pQ post) args s mc ms free) (F0 m pc ls [.int v]) := by
  obtain ⟨hx, hb, hml, hown, hts, hr, hlocks, hK, -⟩ := X
  refine W.widen hc.1 hc.2 ?_
  exact W.iret (v := v) hx hb hr (fun t ht hW => ⟨_, rfl, by rw [ht]; exact hxx, by rw [ht]; exact hp⟩) (fun q h => nomatch h) hdg hlocks
theorem p_zret (X : CX p s m args meth c y cy nl (some .boolean) g) {v : Bool} {free : Addr → Prop} (hxx : hxt s.heap H) (hp : post (some (.int (if v then 1 else 0))) H) (hc : cells ≤ mc ∧ slots ≤ ms) (hdg : decode cy pc = .ok (.ireturn, 1)) :
    W p l e R s m args below meth c H [] cells slots (MQ below (pQ post) args s mc ms free) (F0 m pc ls [.int (if v then 1 else 0)]) := by
  obtain ⟨hx, hb, hml, hown, hts, hr, hlocks, hK, -⟩ := X
  refine W.widen hc.1 hc.2 ?_
  exact W.zret (v := (if v then 1 else 0)) hx hb hr (by cases v <;> decide) (fun t ht hW => ⟨_, rfl, by rw [ht]; exact hxx, by rw [ht]; exact hp⟩) (fun q h => nomatch h) hdg hlocks
theorem p_aret (X : CX p s m args meth c y cy nl (some (.object C)) g) {v : Nat} {free : Addr → Prop} (hxx : hxt s.heap H) (hp : post (some (.ref v)) H) (hc : cells ≤ mc ∧ slots ≤ ms) (hdg : decode cy pc = .ok (.areturn, 1)) :
    W p l e R s m args below meth c H [] cells slots (MQ below (pQ post) args s mc ms free) (F0 m pc ls [.ref v]) := by
  obtain ⟨hx, hb, hml, hown, hts, hr, hlocks, hK, -⟩ := X
  refine W.widen hc.1 hc.2 ?_
  exact W.aret (v := .ref v) hx hb hr (Or.inl ⟨_, rfl⟩) (Or.inr ⟨_, rfl⟩) (fun t ht hW => ⟨_, rfl, by rw [ht]; exact hxx, by rw [ht]; exact hp⟩) (fun q h => nomatch h) hdg hlocks
theorem p_vret (X : CX p s m args meth c y cy nl none g) {free : Addr → Prop} (hxx : hxt s.heap H) (hp : post none H) (hc : cells ≤ mc ∧ slots ≤ ms) (hdg : decode cy pc = .ok (.return_, 1)) :
    W p l e R s m args below meth c H [] cells slots (MQ below (pQ post) args s mc ms free) (F0 m pc ls []) := by
  obtain ⟨hx, hb, hml, hown, hts, hr, hlocks, hK, -⟩ := X
  refine W.widen hc.1 hc.2 ?_
  exact W.vret hx hb hr (fun t ht hW => ⟨_, rfl, by rw [ht]; exact hxx, by rw [ht]; exact hp⟩) (fun q h => nomatch h) hdg hlocks
end PW
/-! constructors: one cell is written -/
def hxa (a : Nat) (H H1 : Heap) : Prop := H.size ≤ H1.size ∧ ∀ q : Nat, q < H.size → q ≠ a → H1[q]? = H[q]?
theorem hxt.init {H H1 H2 : Heap} {a : Nat} (h : hxt H H1) (ha : H.size ≤ a) (k : hxa a H1 H2) : hxt H H2 := ⟨Nat.le_trans h.1 k.1, fun q hq => (k.2 q (Nat.lt_of_lt_of_le hq h.1) (by omega)).trans (h.2 q hq)⟩
def iPc (g : En) (a : Nat) (av : List Value) (G : Heap → Prop) (sz : Nat) : Array Value → State → Prop := fun v U => v = (Value.ref a :: av).toArray ∧ U.heap.size = sz ∧ G U.heap ∧ KK g U
def iQ (a : Nat) (post : Heap → Prop) : Array Value → State → Outcome → State → Prop := fun _ st o t => o = .returned none ∧ hxa a st.heap t.heap ∧ post t.heap
def IM (l : Launch) (y : MethodName) (cy : ByteArray) (nl : Nat) (rm : Room) (g : En) (a : Nat) (av : List Value) (G : Heap → Prop) (mc ms : Nat) (post : Heap → Prop) : Prop :=
  ∀ sz : Nat, Met l y (Cond.code y cy nl none :: tb) rm (pPc g (.ref a :: av) G sz) (iQ a post) mc ms (fun q => q = a ∨ sz ≤ q)
theorem IM.of {l : Launch} {y : MethodName} {cy : ByteArray} {nl : Nat} {rm : Room} {g : En} {a : Nat} {av : List Value} {G : Heap → Prop} {mc ms : Nat} {post : Heap → Prop} (hy : plainName y.cls = true) (hav : (lg_sl (.ref a :: av)).length ≤ nl)
    (body : ∀ (p : Program) (e : Env) (s : State) (m : MethodId) (below : List Frame) (meth : Method) (c : Code) (ls : Array Slot), CX p s m (Value.ref a :: av).toArray meth c y cy nl none g → G s.heap → lv_has ls nl (lv_args 0 (.ref a :: av)) →
      W p l e rm s m (Value.ref a :: av).toArray below meth c s.heap [] 0 0 (MQ below (iQ a post) (Value.ref a :: av).toArray s mc ms (fun q => q = a ∨ s.heap.size ≤ q)) (F0 m 0 ls [])) : IM l y cy nl rm g a av G mc ms post := by
  intro sz
  refine Met.ofW (cc := cy) (maxL := nl) (ret := none) hy rfl ?_
  intro p e s m args below meth c s₁ B hml hv
  obtain ⟨rfl, hsz, hG, hK⟩ := hv
  subst hsz
  have hts := atoms_spec (ws := Cond.code y cy nl none :: tb) B.pre
  rw [lg_entry_eq]
  exact body p e s m below meth c _ ⟨B.exec, B.bytes, hml, findClass_of_methodNamed B.named, hts, B.returns, B.notSynchronized, hK, fun h => (name_of_methodNamed B.named B.method).1.trans h, B.noHandlers (hts _ List.mem_cons_self)⟩ hG (lv_entry (.ref a :: av) hav)
section PI
variable {p : Program} {l : Launch} {e : Env} {R : Room} {s : State} {m : MethodId} {args : Array Value} {below : List Frame} {meth : Method} {c : Code} {H : Heap} {locs : List Loc} {cells slots : Nat} {Q : State → Prop} {pc : Nat} {ls : Array Slot} {rest st0 : List Value} {g : En}
variable {y y' : MethodName} {cy cy' : ByteArray} {nl nl' : Nat} {ret ret' : Option FieldType}
variable {mc ms n idx : Nat} {post : Heap → Prop} {rm : Room} {G : Heap → Prop} {b : Nat} {As : List Value} {C : String}
theorem p_callI (X : CX p s m args meth c y cy nl ret g) (hM : IM l y' cy' nl' rm g b As G mc ms post)
    (hw : Cond.methodLink y.cls idx y' ∈ tb ∧ Cond.instanceMethod y' ∈ tb ∧ Cond.initialized y'.cls ∈ tb ∧ Cond.code y' cy' nl' none ∈ tb) (hy1 : y'.name = "<init>")
    (hd : y'.cls ≠ "java/lang/invoke/MethodHandle" ∧ y'.cls ≠ "java/lang/invoke/VarHandle" ∧ (parseMethodDescriptor y'.desc).map (fun d => d.parameters.length) = some n)
    (hrm : rm.cells = mc ∧ rm.slots = ms ∧ (rm.frames + 1 ≤ R.frames ∧ 8 + (nl' + 11) + rm.locals ≤ R.locals) ∧ cells + mc ≤ R.cells ∧ slots + ms ≤ R.slots)
    (hG : G H) (hs : s.heap.size ≤ H.size) (hbs : s.heap.size ≤ b) (hn : As.length = n) (hls : ls.size = nl) (hst : st0 = As.reverse ++ .ref b :: rest) (hrest : (rest.map fun v => v.category).sum ≤ 8) (hdg : decode cy pc = .ok (.invokespecial idx, 3))
    (kk : ∀ (H1 : Heap), hxa b H H1 → post H1 → W p l e R s m args below meth c H1 locs (cells + mc) (slots + ms) Q (F0 m (pc + 3) ls rest)) : W p l e R s m args below meth c H locs cells slots Q (F0 m pc ls st0) := by
  obtain ⟨hx, hb, hml, hown, hts, -, -, hK, -⟩ := X
  have hts' : ∀ w ∈ tb, w.before args s = true := fun w h => hts w (List.mem_cons_of_mem _ h)
  obtain ⟨h1, h2, h4, h5⟩ := hw
  obtain ⟨r1, r2, r3, r4⟩ := hrm
  refine W.callX (W.runI (n := n) (As := As) (b := b) (rest := rest) ⟨hx, hb, hml, hown, hts⟩ (hM H.size) (cwI n hts (tb_GG h5) rfl r1 r2 (hts' _ h4) (hts' _ h1) (hts' _ h2) hy1 hd r3) ⟨pPc_blind, fun U hU hW => ⟨rfl, by rw [hU], by rw [hU]; exact hG, va_K.moved hW.alike hK⟩⟩ rfl hn hls hst (lv_room hrest) hdg r4) (fun x hx => ?_) (fun v st₀ t h0 hq => ?_)
  · rcases hx with h | h
    · rw [h]; exact hbs
    · exact Nat.le_trans hs h
  · obtain ⟨e1, e2, e3⟩ := hq
    cases e1
    rw [h0] at e2
    exact kk t.heap e2 e3
/-- a final field of the object that is being made -/
theorem p_putF (X : CX p s m args meth c y cy nl ret g) {T : u_T} {N ci idx a : Nat} (ty0 : Nat → FieldType) (hty : ∀ k, k < N → parseFieldDescriptor (T k).2.2.1 = some (ty0 k)) (hnm : ∀ a, a < N → ∀ b, b < N → a ≠ b → (T a).2.1 ≠ (T b).2.1) (hin : ∀ w ∈ u_ws y.cls T N, w ∈ tb) {fs : List Value} (hat : va_at g.1 cl0 (a, .inr (ci, fs)) H) (hc : cl0[ci]? = some (y.cls, T, N)) (k : Nat) (hk : k < N) (hl : Cond.fieldLink y.cls idx y.cls (T k).2.1 (T k).2.2.1 ∈ tb) (hsame : (T k).1 = y.cls) (hfin : (T k).2.2.2 = true) (hi : y.name = "<init>") {v : Value} {ty : FieldType} (hd : parseFieldDescriptor (T k).2.2.1 = some ty) (hn : narrow ty v = v) (hfit : fits ty v = true) (hl2 : k < fs.length) (hlocs : ∀ q ∈ locs, q.base = a) (hdg : decode cy pc = .ok (.putfield idx, 3))
    (kk : ∀ (H1 : Heap) (locs1 : List Loc), hxa a H H1 → (∀ q ∈ locs1, q.base = a) → va_at g.1 cl0 (a, .inr (ci, fs.set k v)) H1 → W p l e R s m args below meth c H1 locs1 cells slots Q (F0 m (pc + 3) ls rest)) : W p l e R s m args below meth c H locs cells slots Q (F0 m pc ls (v :: .ref a :: rest)) := by
  obtain ⟨hx, hb, hml, hown, hts, -, -, hK, hnm2, -⟩ := X
  have hts' : ∀ w ∈ tb, w.before args s = true := fun w h => hts w (List.mem_cons_of_mem _ h)
  refine va_putF (A := fun q => q = a) (H0 := H) hx hb hts' hin ty0 hty hnm hown hK (PP.one hat) ⟨fun i j p q hi hj _ => ?_, fun k q hq => ?_⟩ ⟨Nat.le_refl _, fun _ _ _ => rfl, fun q h => hlocs q h⟩ 0 rfl hc k hk (hts' _ hl) (fun x h9 => by rw [← hsame]; exact h9) hfin (hnm2 hi) hsame hd hn hfit hl2 hdg (fun H1 locs1 hP1 hD1 hS1 => kk H1 locs1 ⟨hS1.1, fun q h1 h2 => hS1.2.1 q h1 h2⟩ hS1.2.2 (hP1 0 _ rfl))
  · have h1 : i < 1 := (List.getElem?_eq_some_iff.mp hi).1
    have h2 : j < 1 := (List.getElem?_eq_some_iff.mp hj).1
    omega
  · have h1 : k < 1 := (List.getElem?_eq_some_iff.mp hq).1
    rw [show k = 0 by omega] at hq
    cases hq; rfl
theorem p_ivret (X : CX p s m args meth c y cy nl none g) (hxx : hxa b s.heap H) (hlocs : ∀ q ∈ locs, q.base = b) (hp : post H) (hc : cells ≤ mc ∧ slots ≤ ms) (hdg : decode cy pc = .ok (.return_, 1)) :
    W p l e R s m args below meth c H locs cells slots (MQ below (iQ b post) args s mc ms (fun q => q = b ∨ s.heap.size ≤ q)) (F0 m pc ls []) := by
  obtain ⟨hx, hb, hml, hown, hts, hr, hlocks, hK, -⟩ := X
  refine W.widen hc.1 hc.2 ?_
  exact W.vret hx hb hr (fun t ht hW => ⟨rfl, by rw [ht]; exact hxx, by rw [ht]; exact hp⟩) (fun q h => Or.inl (hlocs q h)) hdg hlocks
end PI
theorem uX0 : ∀ w ∈ u_ws RX0 TX0 2, w ∈ tb := by decide +kernel
theorem uX1 : ∀ w ∈ u_ws RX1 TX1 3, w ∈ tb := by decide +kernel
theorem uX2 : ∀ w ∈ u_ws RX2 TX2 8, w ∈ tb := by decide +kernel
end
section
section BR
variable {p : Program} {l : Launch} {e : Env} {R : Room} {s : State} {m : MethodId} {args : Array Value} {below : List Frame} {meth : Method} {c : Code} {H : Heap} {locs : List Loc} {cells slots : Nat} {Q : State → Prop} {pc : Nat} {ls : Array Slot} {rest : List Value} {g : En}
variable {y : MethodName} {cy : ByteArray} {nl : Nat} {ret : Option FieldType}
theorem q_llt (X : CX p s m args meth c y cy nl ret g) {x y : Int64} {off : Int} {tgt : Nat} (d1 : decode cy pc = .ok (.lcmp, 1)) (d2 : decode cy (pc + 1) = .ok (.ifCond .lt off, 3)) (ht : ((pc + 1 : Nat) : Int) + off = (tgt : Int))
    (kt : x < y → W p l e R s m args below meth c H locs cells slots Q (F0 m tgt ls rest)) (kf : ¬ x < y → W p l e R s m args below meth c H locs cells slots Q (F0 m (pc + 4) ls rest)) : W p l e R s m args below meth c H locs cells slots Q (F0 m pc ls (.long y :: .long x :: rest)) := by
  refine W.lcmp X.1 X.2.1 d1 ?_
  exact lv_if_lt X.1 X.2.1 d2 ht (fun h => kt ((lg_cmp_lt x y).mp h)) (fun h => kf (fun h9 => h ((lg_cmp_lt x y).mpr h9)))
theorem q_lge (X : CX p s m args meth c y cy nl ret g) {x y : Int64} {off : Int} {tgt : Nat} (d1 : decode cy pc = .ok (.lcmp, 1)) (d2 : decode cy (pc + 1) = .ok (.ifCond .ge off, 3)) (ht : ((pc + 1 : Nat) : Int) + off = (tgt : Int))
    (kt : y ≤ x → W p l e R s m args below meth c H locs cells slots Q (F0 m tgt ls rest)) (kf : ¬ y ≤ x → W p l e R s m args below meth c H locs cells slots Q (F0 m (pc + 4) ls rest)) : W p l e R s m args below meth c H locs cells slots Q (F0 m pc ls (.long y :: .long x :: rest)) := by
  refine W.lcmp X.1 X.2.1 d1 ?_
  exact lv_if_ge X.1 X.2.1 d2 ht (fun h => kt ((lg_cmp_ge x y).mp h)) (fun h => kf (fun h9 => h ((lg_cmp_ge x y).mpr h9)))
theorem q_lgt (X : CX p s m args meth c y cy nl ret g) {x y : Int64} {off : Int} {tgt : Nat} (d1 : decode cy pc = .ok (.lcmp, 1)) (d2 : decode cy (pc + 1) = .ok (.ifCond .gt off, 3)) (ht : ((pc + 1 : Nat) : Int) + off = (tgt : Int))
    (kt : y < x → W p l e R s m args below meth c H locs cells slots Q (F0 m tgt ls rest)) (kf : ¬ y < x → W p l e R s m args below meth c H locs cells slots Q (F0 m (pc + 4) ls rest)) : W p l e R s m args below meth c H locs cells slots Q (F0 m pc ls (.long y :: .long x :: rest)) := by
  refine W.lcmp X.1 X.2.1 d1 ?_
  exact lv_if_gt X.1 X.2.1 d2 ht (fun h => kt ((lg_cmp_gt x y).mp h)) (fun h => kf (fun h9 => h ((lg_cmp_gt x y).mpr h9)))
theorem q_lle (X : CX p s m args meth c y cy nl ret g) {x y : Int64} {off : Int} {tgt : Nat} (d1 : decode cy pc = .ok (.lcmp, 1)) (d2 : decode cy (pc + 1) = .ok (.ifCond .le off, 3)) (ht : ((pc + 1 : Nat) : Int) + off = (tgt : Int))
    (kt : x ≤ y → W p l e R s m args below meth c H locs cells slots Q (F0 m tgt ls rest)) (kf : ¬ x ≤ y → W p l e R s m args below meth c H locs cells slots Q (F0 m (pc + 4) ls rest)) : W p l e R s m args below meth c H locs cells slots Q (F0 m pc ls (.long y :: .long x :: rest)) := by
  refine W.lcmp X.1 X.2.1 d1 ?_
  exact lv_if_le X.1 X.2.1 d2 ht (fun h => kt ((lg_cmp_le x y).mp h)) (fun h => kf (fun h9 => h ((lg_cmp_le x y).mpr h9)))
theorem q_leq (X : CX p s m args meth c y cy nl ret g) {x y : Int64} {off : Int} {tgt : Nat} (d1 : decode cy pc = .ok (.lcmp, 1)) (d2 : decode cy (pc + 1) = .ok (.ifCond .eq off, 3)) (ht : ((pc + 1 : Nat) : Int) + off = (tgt : Int))
    (kt : x = y → W p l e R s m args below meth c H locs cells slots Q (F0 m tgt ls rest)) (kf : ¬ x = y → W p l e R s m args below meth c H locs cells slots Q (F0 m (pc + 4) ls rest)) : W p l e R s m args below meth c H locs cells slots Q (F0 m pc ls (.long y :: .long x :: rest)) := by
  refine W.lcmp X.1 X.2.1 d1 ?_
  exact lv_if_eq X.1 X.2.1 d2 ht (fun h => kt ((lg_cmp_eq x y).mp h)) (fun h => kf (fun h9 => h ((lg_cmp_eq x y).mpr h9)))
theorem q_lne (X : CX p s m args meth c y cy nl ret g) {x y : Int64} {off : Int} {tgt : Nat} (d1 : decode cy pc = .ok (.lcmp, 1)) (d2 : decode cy (pc + 1) = .ok (.ifCond .ne off, 3)) (ht : ((pc + 1 : Nat) : Int) + off = (tgt : Int))
    (kt : ¬ x = y → W p l e R s m args below meth c H locs cells slots Q (F0 m tgt ls rest)) (kf : x = y → W p l e R s m args below meth c H locs cells slots Q (F0 m (pc + 4) ls rest)) : W p l e R s m args below meth c H locs cells slots Q (F0 m pc ls (.long y :: .long x :: rest)) := by
  refine W.lcmp X.1 X.2.1 d1 ?_
  exact lv_if_ne X.1 X.2.1 d2 ht (fun h => kt (fun h9 => h ((lg_cmp_eq x y).mpr h9))) (fun h => kf ((lg_cmp_eq x y).mp h))
theorem q_Nlt (X : CX p s m args meth c y cy nl ret g) {a b : Nat} (ha : a < 2 ^ 63) (hb : b < 2 ^ 63) {off : Int} {tgt : Nat} (d1 : decode cy pc = .ok (.lcmp, 1)) (d2 : decode cy (pc + 1) = .ok (.ifCond .lt off, 3)) (ht : ((pc + 1 : Nat) : Int) + off = (tgt : Int))
    (kt : a < b → W p l e R s m args below meth c H locs cells slots Q (F0 m tgt ls rest)) (kf : b ≤ a → W p l e R s m args below meth c H locs cells slots Q (F0 m (pc + 4) ls rest)) : W p l e R s m args below meth c H locs cells slots Q (F0 m pc ls (.long (lN b) :: .long (lN a) :: rest)) :=
  q_llt X d1 d2 ht (fun h => kt ((pk_lLT ha hb).mp h)) (fun h => kf (by rcases Nat.lt_or_ge a b with h9 | h9 <;> first | exact h9 | exact Nat.le_of_lt h9 | (exfalso; apply h; first | exact (pk_lLT ha hb).mpr h9 | exact (pk_lLT ha hb).mpr (Nat.le_of_lt h9)) | (rcases Nat.lt_or_ge b a with h8 | h8 <;> first | exact h8 | (exfalso; apply h; first | exact (pk_lLT ha hb).mpr h8 | exact (pk_lLT ha hb).mpr h9))))
theorem q_Nge (X : CX p s m args meth c y cy nl ret g) {a b : Nat} (ha : a < 2 ^ 63) (hb : b < 2 ^ 63) {off : Int} {tgt : Nat} (d1 : decode cy pc = .ok (.lcmp, 1)) (d2 : decode cy (pc + 1) = .ok (.ifCond .ge off, 3)) (ht : ((pc + 1 : Nat) : Int) + off = (tgt : Int))
    (kt : b ≤ a → W p l e R s m args below meth c H locs cells slots Q (F0 m tgt ls rest)) (kf : a < b → W p l e R s m args below meth c H locs cells slots Q (F0 m (pc + 4) ls rest)) : W p l e R s m args below meth c H locs cells slots Q (F0 m pc ls (.long (lN b) :: .long (lN a) :: rest)) :=
  q_lge X d1 d2 ht (fun h => kt ((pk_lLE hb ha).mp h)) (fun h => kf (by rcases Nat.lt_or_ge a b with h9 | h9 <;> first | exact h9 | exact Nat.le_of_lt h9 | (exfalso; apply h; first | exact (pk_lLE hb ha).mpr h9 | exact (pk_lLE hb ha).mpr (Nat.le_of_lt h9)) | (rcases Nat.lt_or_ge b a with h8 | h8 <;> first | exact h8 | (exfalso; apply h; first | exact (pk_lLE hb ha).mpr h8 | exact (pk_lLE hb ha).mpr h9))))
theorem q_Ngt (X : CX p s m args meth c y cy nl ret g) {a b : Nat} (ha : a < 2 ^ 63) (hb : b < 2 ^ 63) {off : Int} {tgt : Nat} (d1 : decode cy pc = .ok (.lcmp, 1)) (d2 : decode cy (pc + 1) = .ok (.ifCond .gt off, 3)) (ht : ((pc + 1 : Nat) : Int) + off = (tgt : Int))
    (kt : b < a → W p l e R s m args below meth c H locs cells slots Q (F0 m tgt ls rest)) (kf : a ≤ b → W p l e R s m args below meth c H locs cells slots Q (F0 m (pc + 4) ls rest)) : W p l e R s m args below meth c H locs cells slots Q (F0 m pc ls (.long (lN b) :: .long (lN a) :: rest)) :=
  q_lgt X d1 d2 ht (fun h => kt ((pk_lLT hb ha).mp h)) (fun h => kf (by rcases Nat.lt_or_ge a b with h9 | h9 <;> first | exact h9 | exact Nat.le_of_lt h9 | (exfalso; apply h; first | exact (pk_lLT hb ha).mpr h9 | exact (pk_lLT hb ha).mpr (Nat.le_of_lt h9)) | (rcases Nat.lt_or_ge b a with h8 | h8 <;> first | exact h8 | (exfalso; apply h; first | exact (pk_lLT hb ha).mpr h8 | exact (pk_lLT hb ha).mpr h9))))
theorem q_Nle (X : CX p s m args meth c y cy nl ret g) {a b : Nat} (ha : a < 2 ^ 63) (hb : b < 2 ^ 63) {off : Int} {tgt : Nat} (d1 : decode cy pc = .ok (.lcmp, 1)) (d2 : decode cy (pc + 1) = .ok (.ifCond .le off, 3)) (ht : ((pc + 1 : Nat) : Int) + off = (tgt : Int))
    (kt : a ≤ b → W p l e R s m args below meth c H locs cells slots Q (F0 m tgt ls rest)) (kf : b < a → W p l e R s m args below meth c H locs cells slots Q (F0 m (pc + 4) ls rest)) : W p l e R s m args below meth c H locs cells slots Q (F0 m pc ls (.long (lN b) :: .long (lN a) :: rest)) :=
  q_lle X d1 d2 ht (fun h => kt ((pk_lLE ha hb).mp h)) (fun h => kf (by rcases Nat.lt_or_ge a b with h9 | h9 <;> first | exact h9 | exact Nat.le_of_lt h9 | (exfalso; apply h; first | exact (pk_lLE ha hb).mpr h9 | exact (pk_lLE ha hb).mpr (Nat.le_of_lt h9)) | (rcases Nat.lt_or_ge b a with h8 | h8 <;> first | exact h8 | (exfalso; apply h; first | exact (pk_lLE ha hb).mpr h8 | exact (pk_lLE ha hb).mpr h9))))
theorem q_Neq (X : CX p s m args meth c y cy nl ret g) {a b : Nat} (ha : a < 2 ^ 63) (hb : b < 2 ^ 63) {off : Int} {tgt : Nat} (d1 : decode cy pc = .ok (.lcmp, 1)) (d2 : decode cy (pc + 1) = .ok (.ifCond .eq off, 3)) (ht : ((pc + 1 : Nat) : Int) + off = (tgt : Int))
    (kt : a = b → W p l e R s m args below meth c H locs cells slots Q (F0 m tgt ls rest)) (kf : a ≠ b → W p l e R s m args below meth c H locs cells slots Q (F0 m (pc + 4) ls rest)) : W p l e R s m args below meth c H locs cells slots Q (F0 m pc ls (.long (lN b) :: .long (lN a) :: rest)) :=
  q_leq X d1 d2 ht (fun h => kt ((pk_lEQ ha hb).mp h)) (fun h => kf (fun h9 => h ((pk_lEQ ha hb).mpr h9)))
theorem q_Nne (X : CX p s m args meth c y cy nl ret g) {a b : Nat} (ha : a < 2 ^ 63) (hb : b < 2 ^ 63) {off : Int} {tgt : Nat} (d1 : decode cy pc = .ok (.lcmp, 1)) (d2 : decode cy (pc + 1) = .ok (.ifCond .ne off, 3)) (ht : ((pc + 1 : Nat) : Int) + off = (tgt : Int))
    (kt : a ≠ b → W p l e R s m args below meth c H locs cells slots Q (F0 m tgt ls rest)) (kf : a = b → W p l e R s m args below meth c H locs cells slots Q (F0 m (pc + 4) ls rest)) : W p l e R s m args below meth c H locs cells slots Q (F0 m pc ls (.long (lN b) :: .long (lN a) :: rest)) :=
  q_lne X d1 d2 ht (fun h => kt (fun h9 => h ((pk_lEQ ha hb).mpr h9))) (fun h => kf ((pk_lEQ ha hb).mp h))
theorem q_Ilt (X : CX p s m args meth c y cy nl ret g) {a b : Nat} (ha : a < 2 ^ 31) (hb : b < 2 ^ 31) {off : Int} {tgt : Nat} (d : decode cy pc = .ok (.if_icmp .lt off, 3)) (ht : (pc : Int) + off = (tgt : Int))
    (kt : a < b → W p l e R s m args below meth c H locs cells slots Q (F0 m tgt ls rest)) (kf : b ≤ a → W p l e R s m args below meth c H locs cells slots Q (F0 m (pc + 3) ls rest)) : W p l e R s m args below meth c H locs cells slots Q (F0 m pc ls (.int (nI b) :: .int (nI a) :: rest)) :=
  lv_icmp_lt X.1 X.2.1 d ht (fun h => kt ((nI_ltI ha hb).mp h)) (fun h => kf (by rcases Nat.lt_or_ge a b with h9 | h9 <;> first | exact h9 | exact Nat.le_of_lt h9 | (exfalso; apply h; first | exact (nI_ltI ha hb).mpr h9 | exact (nI_ltI ha hb).mpr (Nat.le_of_lt h9)) | (rcases Nat.lt_or_ge b a with h8 | h8 <;> first | exact h8 | (exfalso; apply h; first | exact (nI_ltI ha hb).mpr h8 | exact (nI_ltI ha hb).mpr h9))))
theorem q_Ige (X : CX p s m args meth c y cy nl ret g) {a b : Nat} (ha : a < 2 ^ 31) (hb : b < 2 ^ 31) {off : Int} {tgt : Nat} (d : decode cy pc = .ok (.if_icmp .ge off, 3)) (ht : (pc : Int) + off = (tgt : Int))
    (kt : b ≤ a → W p l e R s m args below meth c H locs cells slots Q (F0 m tgt ls rest)) (kf : a < b → W p l e R s m args below meth c H locs cells slots Q (F0 m (pc + 3) ls rest)) : W p l e R s m args below meth c H locs cells slots Q (F0 m pc ls (.int (nI b) :: .int (nI a) :: rest)) :=
  lv_icmp_ge X.1 X.2.1 d ht (fun h => kt ((nI_leI hb ha).mp h)) (fun h => kf (by rcases Nat.lt_or_ge a b with h9 | h9 <;> first | exact h9 | exact Nat.le_of_lt h9 | (exfalso; apply h; first | exact (nI_leI hb ha).mpr h9 | exact (nI_leI hb ha).mpr (Nat.le_of_lt h9)) | (rcases Nat.lt_or_ge b a with h8 | h8 <;> first | exact h8 | (exfalso; apply h; first | exact (nI_leI hb ha).mpr h8 | exact (nI_leI hb ha).mpr h9))))
theorem q_Igt (X : CX p s m args meth c y cy nl ret g) {a b : Nat} (ha : a < 2 ^ 31) (hb : b < 2 ^ 31) {off : Int} {tgt : Nat} (d : decode cy pc = .ok (.if_icmp .gt off, 3)) (ht : (pc : Int) + off = (tgt : Int))
    (kt : b < a → W p l e R s m args below meth c H locs cells slots Q (F0 m tgt ls rest)) (kf : a ≤ b → W p l e R s m args below meth c H locs cells slots Q (F0 m (pc + 3) ls rest)) : W p l e R s m args below meth c H locs cells slots Q (F0 m pc ls (.int (nI b) :: .int (nI a) :: rest)) :=
  lv_icmp_gt X.1 X.2.1 d ht (fun h => kt ((nI_ltI hb ha).mp h)) (fun h => kf (by rcases Nat.lt_or_ge a b with h9 | h9 <;> first | exact h9 | exact Nat.le_of_lt h9 | (exfalso; apply h; first | exact (nI_ltI hb ha).mpr h9 | exact (nI_ltI hb ha).mpr (Nat.le_of_lt h9)) | (rcases Nat.lt_or_ge b a with h8 | h8 <;> first | exact h8 | (exfalso; apply h; first | exact (nI_ltI hb ha).mpr h8 | exact (nI_ltI hb ha).mpr h9))))
theorem q_Ile (X : CX p s m args meth c y cy nl ret g) {a b : Nat} (ha : a < 2 ^ 31) (hb : b < 2 ^ 31) {off : Int} {tgt : Nat} (d : decode cy pc = .ok (.if_icmp .le off, 3)) (ht : (pc : Int) + off = (tgt : Int))
    (kt : a ≤ b → W p l e R s m args below meth c H locs cells slots Q (F0 m tgt ls rest)) (kf : b < a → W p l e R s m args below meth c H locs cells slots Q (F0 m (pc + 3) ls rest)) : W p l e R s m args below meth c H locs cells slots Q (F0 m pc ls (.int (nI b) :: .int (nI a) :: rest)) :=
  lv_icmp_le X.1 X.2.1 d ht (fun h => kt ((nI_leI ha hb).mp h)) (fun h => kf (by rcases Nat.lt_or_ge a b with h9 | h9 <;> first | exact h9 | exact Nat.le_of_lt h9 | (exfalso; apply h; first | exact (nI_leI ha hb).mpr h9 | exact (nI_leI ha hb).mpr (Nat.le_of_lt h9)) | (rcases Nat.lt_or_ge b a with h8 | h8 <;> first | exact h8 | (exfalso; apply h; first | exact (nI_leI ha hb).mpr h8 | exact (nI_leI ha hb).mpr h9))))
theorem q_Ieq (X : CX p s m args meth c y cy nl ret g) {a b : Nat} (ha : a < 2 ^ 31) (hb : b < 2 ^ 31) {off : Int} {tgt : Nat} (d : decode cy pc = .ok (.if_icmp .eq off, 3)) (ht : (pc : Int) + off = (tgt : Int))
    (kt : a = b → W p l e R s m args below meth c H locs cells slots Q (F0 m tgt ls rest)) (kf : a ≠ b → W p l e R s m args below meth c H locs cells slots Q (F0 m (pc + 3) ls rest)) : W p l e R s m args below meth c H locs cells slots Q (F0 m pc ls (.int (nI b) :: .int (nI a) :: rest)) :=
  lv_icmp_eq X.1 X.2.1 d ht (fun h => kt ((nI_eq ha hb).mp h)) (fun h => kf (fun h9 => h ((nI_eq ha hb).mpr h9)))
theorem q_Ine (X : CX p s m args meth c y cy nl ret g) {a b : Nat} (ha : a < 2 ^ 31) (hb : b < 2 ^ 31) {off : Int} {tgt : Nat} (d : decode cy pc = .ok (.if_icmp .ne off, 3)) (ht : (pc : Int) + off = (tgt : Int))
    (kt : a ≠ b → W p l e R s m args below meth c H locs cells slots Q (F0 m tgt ls rest)) (kf : a = b → W p l e R s m args below meth c H locs cells slots Q (F0 m (pc + 3) ls rest)) : W p l e R s m args below meth c H locs cells slots Q (F0 m pc ls (.int (nI b) :: .int (nI a) :: rest)) :=
  lv_icmp_ne X.1 X.2.1 d ht (fun h => kt (fun h9 => h ((nI_eq ha hb).mpr h9))) (fun h => kf ((nI_eq ha hb).mp h))
theorem q_Zeq (X : CX p s m args meth c y cy nl ret g) {a : Nat} (ha : a < 2 ^ 31) {off : Int} {tgt : Nat} (d : decode cy pc = .ok (.ifCond .eq off, 3)) (ht : (pc : Int) + off = (tgt : Int))
    (kt : a = 0 → W p l e R s m args below meth c H locs cells slots Q (F0 m tgt ls rest)) (kf : a ≠ 0 → W p l e R s m args below meth c H locs cells slots Q (F0 m (pc + 3) ls rest)) : W p l e R s m args below meth c H locs cells slots Q (F0 m pc ls (.int (nI a) :: rest)) :=
  lv_if_eq X.1 X.2.1 d ht (fun h => kt ((nI_eq ha (by decide)).mp (h.trans nI_0.symm))) (fun h => kf (fun h9 => h (by rw [h9]; exact nI_0)))
theorem q_Zne (X : CX p s m args meth c y cy nl ret g) {a : Nat} (ha : a < 2 ^ 31) {off : Int} {tgt : Nat} (d : decode cy pc = .ok (.ifCond .ne off, 3)) (ht : (pc : Int) + off = (tgt : Int))
    (kt : a ≠ 0 → W p l e R s m args below meth c H locs cells slots Q (F0 m tgt ls rest)) (kf : a = 0 → W p l e R s m args below meth c H locs cells slots Q (F0 m (pc + 3) ls rest)) : W p l e R s m args below meth c H locs cells slots Q (F0 m pc ls (.int (nI a) :: rest)) :=
  lv_if_ne X.1 X.2.1 d ht (fun h => kt (fun h9 => h (by rw [h9]; exact nI_0))) (fun h => kf ((nI_eq ha (by decide)).mp (h.trans nI_0.symm)))
def bI (b : Bool) : Int32 := if b then 1 else 0
theorem q_Beq (X : CX p s m args meth c y cy nl ret g) {b : Bool} {off : Int} {tgt : Nat} (d : decode cy pc = .ok (.ifCond .eq off, 3)) (ht : (pc : Int) + off = (tgt : Int))
    (kt : b = false → W p l e R s m args below meth c H locs cells slots Q (F0 m tgt ls rest)) (kf : b = true → W p l e R s m args below meth c H locs cells slots Q (F0 m (pc + 3) ls rest)) : W p l e R s m args below meth c H locs cells slots Q (F0 m pc ls (.int (bI b) :: rest)) :=
  lv_if_eq X.1 X.2.1 d ht (fun h => kt (by cases b; rfl; exact absurd h (by decide))) (fun h => kf (by cases b; exact absurd rfl h; rfl))
theorem q_Bne (X : CX p s m args meth c y cy nl ret g) {b : Bool} {off : Int} {tgt : Nat} (d : decode cy pc = .ok (.ifCond .ne off, 3)) (ht : (pc : Int) + off = (tgt : Int))
    (kt : b = true → W p l e R s m args below meth c H locs cells slots Q (F0 m tgt ls rest)) (kf : b = false → W p l e R s m args below meth c H locs cells slots Q (F0 m (pc + 3) ls rest)) : W p l e R s m args below meth c H locs cells slots Q (F0 m pc ls (.int (bI b) :: rest)) :=
  lv_if_ne X.1 X.2.1 d ht (fun h => kt (by cases b; exact absurd rfl h; rfl)) (fun h => kf (by cases b; rfl; exact absurd h (by decide)))
end BR
/-! what methods hand back; the cells of a fraction -/
abbrev fq (a : Nat) (q : Rat) : Nat × va_E := (a, .inr (0, [.long (lN (nu q)), .long (lN q.den)]))
def rF (g : En) (q : Rat) : Option Value → Heap → Prop := fun v H => ∃ r : Nat, v = some (.ref r) ∧ va_at g.1 cl0 (fq r q) H
def rL (n : Nat) : Option Value → Heap → Prop := fun v _ => v = some (.long (lN n))
def rI (n : Nat) : Option Value → Heap → Prop := fun v _ => v = some (.int (nI n))
def rB (b : Bool) : Option Value → Heap → Prop := fun v _ => v = some (.int (bI b))
def rV : Option Value → Heap → Prop := fun v _ => v = none
theorem sgX0_init : yX0_init.cls ≠ "java/lang/invoke/MethodHandle" ∧ yX0_init.cls ≠ "java/lang/invoke/VarHandle" ∧ (parseMethodDescriptor yX0_init.desc).map (fun d => d.parameters.length) = some 2 := by decide +kernel
theorem sgX0_commonDivisor : yX0_commonDivisor.cls = RX0 ∧ yX0_commonDivisor.cls ≠ "java/lang/invoke/MethodHandle" ∧ yX0_commonDivisor.cls ≠ "java/lang/invoke/VarHandle" ∧ (parseMethodDescriptor yX0_commonDivisor.desc).map (fun d => d.parameters.length) = some 2 := by decide +kernel
theorem sgX0_part : yX0_part.cls = RX0 ∧ yX0_part.cls ≠ "java/lang/invoke/MethodHandle" ∧ yX0_part.cls ≠ "java/lang/invoke/VarHandle" ∧ (parseMethodDescriptor yX0_part.desc).map (fun d => d.parameters.length) = some 1 := by decide +kernel
theorem sgX0_cutOff : yX0_cutOff.cls = RX0 ∧ yX0_cutOff.cls ≠ "java/lang/invoke/MethodHandle" ∧ yX0_cutOff.cls ≠ "java/lang/invoke/VarHandle" ∧ (parseMethodDescriptor yX0_cutOff.desc).map (fun d => d.parameters.length) = some 0 := by decide +kernel
theorem sgX0_isLess : yX0_isLess.cls = RX0 ∧ yX0_isLess.cls ≠ "java/lang/invoke/MethodHandle" ∧ yX0_isLess.cls ≠ "java/lang/invoke/VarHandle" ∧ (parseMethodDescriptor yX0_isLess.desc).map (fun d => d.parameters.length) = some 1 := by decide +kernel
theorem sgX0_isSame : yX0_isSame.cls = RX0 ∧ yX0_isSame.cls ≠ "java/lang/invoke/MethodHandle" ∧ yX0_isSame.cls ≠ "java/lang/invoke/VarHandle" ∧ (parseMethodDescriptor yX0_isSame.desc).map (fun d => d.parameters.length) = some 1 := by decide +kernel
theorem sgX0_plus : yX0_plus.cls = RX0 ∧ yX0_plus.cls ≠ "java/lang/invoke/MethodHandle" ∧ yX0_plus.cls ≠ "java/lang/invoke/VarHandle" ∧ (parseMethodDescriptor yX0_plus.desc).map (fun d => d.parameters.length) = some 1 := by decide +kernel
theorem sgX0_takenFrom : yX0_takenFrom.cls = RX0 ∧ yX0_takenFrom.cls ≠ "java/lang/invoke/MethodHandle" ∧ yX0_takenFrom.cls ≠ "java/lang/invoke/VarHandle" ∧ (parseMethodDescriptor yX0_takenFrom.desc).map (fun d => d.parameters.length) = some 1 := by decide +kernel
theorem sgX0_times : yX0_times.cls = RX0 ∧ yX0_times.cls ≠ "java/lang/invoke/MethodHandle" ∧ yX0_times.cls ≠ "java/lang/invoke/VarHandle" ∧ (parseMethodDescriptor yX0_times.desc).map (fun d => d.parameters.length) = some 1 := by decide +kernel
theorem sgX0_times_ : yX0_times_.cls = RX0 ∧ yX0_times_.cls ≠ "java/lang/invoke/MethodHandle" ∧ yX0_times_.cls ≠ "java/lang/invoke/VarHandle" ∧ (parseMethodDescriptor yX0_times_.desc).map (fun d => d.parameters.length) = some 1 := by decide +kernel
theorem sgX0_inverse : yX0_inverse.cls = RX0 ∧ yX0_inverse.cls ≠ "java/lang/invoke/MethodHandle" ∧ yX0_inverse.cls ≠ "java/lang/invoke/VarHandle" ∧ (parseMethodDescriptor yX0_inverse.desc).map (fun d => d.parameters.length) = some 0 := by decide +kernel
theorem sgX0_dividedBy : yX0_dividedBy.cls = RX0 ∧ yX0_dividedBy.cls ≠ "java/lang/invoke/MethodHandle" ∧ yX0_dividedBy.cls ≠ "java/lang/invoke/VarHandle" ∧ (parseMethodDescriptor yX0_dividedBy.desc).map (fun d => d.parameters.length) = some 1 := by decide +kernel
theorem sgX1_init : yX1_init.cls ≠ "java/lang/invoke/MethodHandle" ∧ yX1_init.cls ≠ "java/lang/invoke/VarHandle" ∧ (parseMethodDescriptor yX1_init.desc).map (fun d => d.parameters.length) = some 0 := by decide +kernel
theorem sgX1_outline : yX1_outline.cls = RX1 ∧ yX1_outline.cls ≠ "java/lang/invoke/MethodHandle" ∧ yX1_outline.cls ≠ "java/lang/invoke/VarHandle" ∧ (parseMethodDescriptor yX1_outline.desc).map (fun d => d.parameters.length) = some 2 := by decide +kernel
theorem sgX1_slope : yX1_slope.cls = RX1 ∧ yX1_slope.cls ≠ "java/lang/invoke/MethodHandle" ∧ yX1_slope.cls ≠ "java/lang/invoke/VarHandle" ∧ (parseMethodDescriptor yX1_slope.desc).map (fun d => d.parameters.length) = some 3 := by decide +kernel
theorem sgX1_gable : yX1_gable.cls = RX1 ∧ yX1_gable.cls ≠ "java/lang/invoke/MethodHandle" ∧ yX1_gable.cls ≠ "java/lang/invoke/VarHandle" ∧ (parseMethodDescriptor yX1_gable.desc).map (fun d => d.parameters.length) = some 1 := by decide +kernel
theorem sgX1_place : yX1_place.cls = RX1 ∧ yX1_place.cls ≠ "java/lang/invoke/MethodHandle" ∧ yX1_place.cls ≠ "java/lang/invoke/VarHandle" ∧ (parseMethodDescriptor yX1_place.desc).map (fun d => d.parameters.length) = some 3 := by decide +kernel
theorem sgX1_face : yX1_face.cls = RX1 ∧ yX1_face.cls ≠ "java/lang/invoke/MethodHandle" ∧ yX1_face.cls ≠ "java/lang/invoke/VarHandle" ∧ (parseMethodDescriptor yX1_face.desc).map (fun d => d.parameters.length) = some 2 := by decide +kernel
theorem sgX1_rafter : yX1_rafter.cls = RX1 ∧ yX1_rafter.cls ≠ "java/lang/invoke/MethodHandle" ∧ yX1_rafter.cls ≠ "java/lang/invoke/VarHandle" ∧ (parseMethodDescriptor yX1_rafter.desc).map (fun d => d.parameters.length) = some 2 := by decide +kernel
theorem sgX1_end : yX1_end.cls = RX1 ∧ yX1_end.cls ≠ "java/lang/invoke/MethodHandle" ∧ yX1_end.cls ≠ "java/lang/invoke/VarHandle" ∧ (parseMethodDescriptor yX1_end.desc).map (fun d => d.parameters.length) = some 3 := by decide +kernel
theorem sgX1_against : yX1_against.cls = RX1 ∧ yX1_against.cls ≠ "java/lang/invoke/MethodHandle" ∧ yX1_against.cls ≠ "java/lang/invoke/VarHandle" ∧ (parseMethodDescriptor yX1_against.desc).map (fun d => d.parameters.length) = some 2 := by decide +kernel
theorem sgX1_length : yX1_length.cls = RX1 ∧ yX1_length.cls ≠ "java/lang/invoke/MethodHandle" ∧ yX1_length.cls ≠ "java/lang/invoke/VarHandle" ∧ (parseMethodDescriptor yX1_length.desc).map (fun d => d.parameters.length) = some 3 := by decide +kernel
theorem sgX1_tangent : yX1_tangent.cls = RX1 ∧ yX1_tangent.cls ≠ "java/lang/invoke/MethodHandle" ∧ yX1_tangent.cls ≠ "java/lang/invoke/VarHandle" ∧ (parseMethodDescriptor yX1_tangent.desc).map (fun d => d.parameters.length) = some 4 := by decide +kernel
theorem sgX1_mouth : yX1_mouth.cls = RX1 ∧ yX1_mouth.cls ≠ "java/lang/invoke/MethodHandle" ∧ yX1_mouth.cls ≠ "java/lang/invoke/VarHandle" ∧ (parseMethodDescriptor yX1_mouth.desc).map (fun d => d.parameters.length) = some 3 := by decide +kernel
theorem sgX1_hip : yX1_hip.cls = RX1 ∧ yX1_hip.cls ≠ "java/lang/invoke/MethodHandle" ∧ yX1_hip.cls ≠ "java/lang/invoke/VarHandle" ∧ (parseMethodDescriptor yX1_hip.desc).map (fun d => d.parameters.length) = some 3 := by decide +kernel
theorem sgX1_peak : yX1_peak.cls = RX1 ∧ yX1_peak.cls ≠ "java/lang/invoke/MethodHandle" ∧ yX1_peak.cls ≠ "java/lang/invoke/VarHandle" ∧ (parseMethodDescriptor yX1_peak.desc).map (fun d => d.parameters.length) = some 1 := by decide +kernel
theorem sgX1_ridge : yX1_ridge.cls = RX1 ∧ yX1_ridge.cls ≠ "java/lang/invoke/MethodHandle" ∧ yX1_ridge.cls ≠ "java/lang/invoke/VarHandle" ∧ (parseMethodDescriptor yX1_ridge.desc).map (fun d => d.parameters.length) = some 2 := by decide +kernel
theorem sgX1_area : yX1_area.cls = RX1 ∧ yX1_area.cls ≠ "java/lang/invoke/MethodHandle" ∧ yX1_area.cls ≠ "java/lang/invoke/VarHandle" ∧ (parseMethodDescriptor yX1_area.desc).map (fun d => d.parameters.length) = some 2 := by decide +kernel
theorem sgX1_batten : yX1_batten.cls = RX1 ∧ yX1_batten.cls ≠ "java/lang/invoke/MethodHandle" ∧ yX1_batten.cls ≠ "java/lang/invoke/VarHandle" ∧ (parseMethodDescriptor yX1_batten.desc).map (fun d => d.parameters.length) = some 2 := by decide +kernel
theorem sgX1_checkIndex : yX1_checkIndex.cls = RX1 ∧ yX1_checkIndex.cls ≠ "java/lang/invoke/MethodHandle" ∧ yX1_checkIndex.cls ≠ "java/lang/invoke/VarHandle" ∧ (parseMethodDescriptor yX1_checkIndex.desc).map (fun d => d.parameters.length) = some 2 := by decide +kernel
theorem sgX1_checkNumber : yX1_checkNumber.cls = RX1 ∧ yX1_checkNumber.cls ≠ "java/lang/invoke/MethodHandle" ∧ yX1_checkNumber.cls ≠ "java/lang/invoke/VarHandle" ∧ (parseMethodDescriptor yX1_checkNumber.desc).map (fun d => d.parameters.length) = some 3 := by decide +kernel
theorem sgX1_checkNoGable : yX1_checkNoGable.cls = RX1 ∧ yX1_checkNoGable.cls ≠ "java/lang/invoke/MethodHandle" ∧ yX1_checkNoGable.cls ≠ "java/lang/invoke/VarHandle" ∧ (parseMethodDescriptor yX1_checkNoGable.desc).map (fun d => d.parameters.length) = some 1 := by decide +kernel
theorem sgX1_checkOthersAreNotAllGables : yX1_checkOthersAreNotAllGables.cls = RX1 ∧ yX1_checkOthersAreNotAllGables.cls ≠ "java/lang/invoke/MethodHandle" ∧ yX1_checkOthersAreNotAllGables.cls ≠ "java/lang/invoke/VarHandle" ∧ (parseMethodDescriptor yX1_checkOthersAreNotAllGables.desc).map (fun d => d.parameters.length) = some 1 := by decide +kernel
theorem sgX1_checkInOutline : yX1_checkInOutline.cls = RX1 ∧ yX1_checkInOutline.cls ≠ "java/lang/invoke/MethodHandle" ∧ yX1_checkInOutline.cls ≠ "java/lang/invoke/VarHandle" ∧ (parseMethodDescriptor yX1_checkInOutline.desc).map (fun d => d.parameters.length) = some 2 := by decide +kernel
theorem sgX1_checkRafter : yX1_checkRafter.cls = RX1 ∧ yX1_checkRafter.cls ≠ "java/lang/invoke/MethodHandle" ∧ yX1_checkRafter.cls ≠ "java/lang/invoke/VarHandle" ∧ (parseMethodDescriptor yX1_checkRafter.desc).map (fun d => d.parameters.length) = some 2 := by decide +kernel
theorem sgX1_isGable : yX1_isGable.cls = RX1 ∧ yX1_isGable.cls ≠ "java/lang/invoke/MethodHandle" ∧ yX1_isGable.cls ≠ "java/lang/invoke/VarHandle" ∧ (parseMethodDescriptor yX1_isGable.desc).map (fun d => d.parameters.length) = some 1 := by decide +kernel
theorem sgX1_changeRun : yX1_changeRun.cls = RX1 ∧ yX1_changeRun.cls ≠ "java/lang/invoke/MethodHandle" ∧ yX1_changeRun.cls ≠ "java/lang/invoke/VarHandle" ∧ (parseMethodDescriptor yX1_changeRun.desc).map (fun d => d.parameters.length) = some 2 := by decide +kernel
theorem sgX1_sideBehind : yX1_sideBehind.cls = RX1 ∧ yX1_sideBehind.cls ≠ "java/lang/invoke/MethodHandle" ∧ yX1_sideBehind.cls ≠ "java/lang/invoke/VarHandle" ∧ (parseMethodDescriptor yX1_sideBehind.desc).map (fun d => d.parameters.length) = some 1 := by decide +kernel
theorem sgX1_opposite : yX1_opposite.cls = RX1 ∧ yX1_opposite.cls ≠ "java/lang/invoke/MethodHandle" ∧ yX1_opposite.cls ≠ "java/lang/invoke/VarHandle" ∧ (parseMethodDescriptor yX1_opposite.desc).map (fun d => d.parameters.length) = some 1 := by decide +kernel
theorem sgX1_goesAlongX : yX1_goesAlongX.cls = RX1 ∧ yX1_goesAlongX.cls ≠ "java/lang/invoke/MethodHandle" ∧ yX1_goesAlongX.cls ≠ "java/lang/invoke/VarHandle" ∧ (parseMethodDescriptor yX1_goesAlongX.desc).map (fun d => d.parameters.length) = some 1 := by decide +kernel
theorem sgX1_sideLength : yX1_sideLength.cls = RX1 ∧ yX1_sideLength.cls ≠ "java/lang/invoke/MethodHandle" ∧ yX1_sideLength.cls ≠ "java/lang/invoke/VarHandle" ∧ (parseMethodDescriptor yX1_sideLength.desc).map (fun d => d.parameters.length) = some 1 := by decide +kernel
theorem sgX1_wayToOpposite : yX1_wayToOpposite.cls = RX1 ∧ yX1_wayToOpposite.cls ≠ "java/lang/invoke/MethodHandle" ∧ yX1_wayToOpposite.cls ≠ "java/lang/invoke/VarHandle" ∧ (parseMethodDescriptor yX1_wayToOpposite.desc).map (fun d => d.parameters.length) = some 1 := by decide +kernel
theorem sgX1_distanceFrom : yX1_distanceFrom.cls = RX1 ∧ yX1_distanceFrom.cls ≠ "java/lang/invoke/MethodHandle" ∧ yX1_distanceFrom.cls ≠ "java/lang/invoke/VarHandle" ∧ (parseMethodDescriptor yX1_distanceFrom.desc).map (fun d => d.parameters.length) = some 3 := by decide +kernel
theorem sgX1_planeHeight : yX1_planeHeight.cls = RX1 ∧ yX1_planeHeight.cls ≠ "java/lang/invoke/MethodHandle" ∧ yX1_planeHeight.cls ≠ "java/lang/invoke/VarHandle" ∧ (parseMethodDescriptor yX1_planeHeight.desc).map (fun d => d.parameters.length) = some 3 := by decide +kernel
theorem sgX1_isLower : yX1_isLower.cls = RX1 ∧ yX1_isLower.cls ≠ "java/lang/invoke/MethodHandle" ∧ yX1_isLower.cls ≠ "java/lang/invoke/VarHandle" ∧ (parseMethodDescriptor yX1_isLower.desc).map (fun d => d.parameters.length) = some 4 := by decide +kernel
theorem sgX1_lowestSide : yX1_lowestSide.cls = RX1 ∧ yX1_lowestSide.cls ≠ "java/lang/invoke/MethodHandle" ∧ yX1_lowestSide.cls ≠ "java/lang/invoke/VarHandle" ∧ (parseMethodDescriptor yX1_lowestSide.desc).map (fun d => d.parameters.length) = some 2 := by decide +kernel
theorem sgX1_limitBy : yX1_limitBy.cls = RX1 ∧ yX1_limitBy.cls ≠ "java/lang/invoke/MethodHandle" ∧ yX1_limitBy.cls ≠ "java/lang/invoke/VarHandle" ∧ (parseMethodDescriptor yX1_limitBy.desc).map (fun d => d.parameters.length) = some 3 := by decide +kernel
theorem sgX1_endingSide : yX1_endingSide.cls = RX1 ∧ yX1_endingSide.cls ≠ "java/lang/invoke/MethodHandle" ∧ yX1_endingSide.cls ≠ "java/lang/invoke/VarHandle" ∧ (parseMethodDescriptor yX1_endingSide.desc).map (fun d => d.parameters.length) = some 2 := by decide +kernel
theorem sgX1_rafterEnd : yX1_rafterEnd.cls = RX1 ∧ yX1_rafterEnd.cls ≠ "java/lang/invoke/MethodHandle" ∧ yX1_rafterEnd.cls ≠ "java/lang/invoke/VarHandle" ∧ (parseMethodDescriptor yX1_rafterEnd.desc).map (fun d => d.parameters.length) = some 2 := by decide +kernel
theorem sgX1_squareAlongSlope : yX1_squareAlongSlope.cls = RX1 ∧ yX1_squareAlongSlope.cls ≠ "java/lang/invoke/MethodHandle" ∧ yX1_squareAlongSlope.cls ≠ "java/lang/invoke/VarHandle" ∧ (parseMethodDescriptor yX1_squareAlongSlope.desc).map (fun d => d.parameters.length) = some 2 := by decide +kernel
theorem sgX1_cutTangent : yX1_cutTangent.cls = RX1 ∧ yX1_cutTangent.cls ≠ "java/lang/invoke/MethodHandle" ∧ yX1_cutTangent.cls ≠ "java/lang/invoke/VarHandle" ∧ (parseMethodDescriptor yX1_cutTangent.desc).map (fun d => d.parameters.length) = some 3 := by decide +kernel
theorem sgX1_peakHeight : yX1_peakHeight.cls = RX1 ∧ yX1_peakHeight.cls ≠ "java/lang/invoke/MethodHandle" ∧ yX1_peakHeight.cls ≠ "java/lang/invoke/VarHandle" ∧ (parseMethodDescriptor yX1_peakHeight.desc).map (fun d => d.parameters.length) = some 0 := by decide +kernel
theorem sgX1_inAtPeak : yX1_inAtPeak.cls = RX1 ∧ yX1_inAtPeak.cls ≠ "java/lang/invoke/MethodHandle" ∧ yX1_inAtPeak.cls ≠ "java/lang/invoke/VarHandle" ∧ (parseMethodDescriptor yX1_inAtPeak.desc).map (fun d => d.parameters.length) = some 1 := by decide +kernel
theorem sgX1_ridgeBound : yX1_ridgeBound.cls = RX1 ∧ yX1_ridgeBound.cls ≠ "java/lang/invoke/MethodHandle" ∧ yX1_ridgeBound.cls ≠ "java/lang/invoke/VarHandle" ∧ (parseMethodDescriptor yX1_ridgeBound.desc).map (fun d => d.parameters.length) = some 1 := by decide +kernel
theorem sgX1_twiceArea : yX1_twiceArea.cls = RX1 ∧ yX1_twiceArea.cls ≠ "java/lang/invoke/MethodHandle" ∧ yX1_twiceArea.cls ≠ "java/lang/invoke/VarHandle" ∧ (parseMethodDescriptor yX1_twiceArea.desc).map (fun d => d.parameters.length) = some 1 := by decide +kernel
theorem sgX1_root : yX1_root.cls = RX1 ∧ yX1_root.cls ≠ "java/lang/invoke/MethodHandle" ∧ yX1_root.cls ≠ "java/lang/invoke/VarHandle" ∧ (parseMethodDescriptor yX1_root.desc).map (fun d => d.parameters.length) = some 1 := by decide +kernel
theorem sgX2_init : yX2_init.cls ≠ "java/lang/invoke/MethodHandle" ∧ yX2_init.cls ≠ "java/lang/invoke/VarHandle" ∧ (parseMethodDescriptor yX2_init.desc).map (fun d => d.parameters.length) = some 0 := by decide +kernel
theorem sgX2_thrown : yX2_thrown.cls = RX2 ∧ yX2_thrown.cls ≠ "java/lang/invoke/MethodHandle" ∧ yX2_thrown.cls ≠ "java/lang/invoke/VarHandle" ∧ (parseMethodDescriptor yX2_thrown.desc).map (fun d => d.parameters.length) = some 0 := by decide +kernel
theorem sgX2_isIn : yX2_isIn.cls = RX2 ∧ yX2_isIn.cls ≠ "java/lang/invoke/MethodHandle" ∧ yX2_isIn.cls ≠ "java/lang/invoke/VarHandle" ∧ (parseMethodDescriptor yX2_isIn.desc).map (fun d => d.parameters.length) = some 3 := by decide +kernel
theorem sgX2_put : yX2_put.cls = RX2 ∧ yX2_put.cls ≠ "java/lang/invoke/MethodHandle" ∧ yX2_put.cls ≠ "java/lang/invoke/VarHandle" ∧ (parseMethodDescriptor yX2_put.desc).map (fun d => d.parameters.length) = some 2 := by decide +kernel
theorem sgX2_told : yX2_told.cls = RX2 ∧ yX2_told.cls ≠ "java/lang/invoke/MethodHandle" ∧ yX2_told.cls ≠ "java/lang/invoke/VarHandle" ∧ (parseMethodDescriptor yX2_told.desc).map (fun d => d.parameters.length) = some 1 := by decide +kernel
theorem sgX2_lesser : yX2_lesser.cls = RX2 ∧ yX2_lesser.cls ≠ "java/lang/invoke/MethodHandle" ∧ yX2_lesser.cls ≠ "java/lang/invoke/VarHandle" ∧ (parseMethodDescriptor yX2_lesser.desc).map (fun d => d.parameters.length) = some 2 := by decide +kernel
theorem sgX2_outline : yX2_outline.cls = RX2 ∧ yX2_outline.cls ≠ "java/lang/invoke/MethodHandle" ∧ yX2_outline.cls ≠ "java/lang/invoke/VarHandle" ∧ (parseMethodDescriptor yX2_outline.desc).map (fun d => d.parameters.length) = some 2 := by decide +kernel
theorem sgX2_slope : yX2_slope.cls = RX2 ∧ yX2_slope.cls ≠ "java/lang/invoke/MethodHandle" ∧ yX2_slope.cls ≠ "java/lang/invoke/VarHandle" ∧ (parseMethodDescriptor yX2_slope.desc).map (fun d => d.parameters.length) = some 3 := by decide +kernel
theorem sgX2_gable : yX2_gable.cls = RX2 ∧ yX2_gable.cls ≠ "java/lang/invoke/MethodHandle" ∧ yX2_gable.cls ≠ "java/lang/invoke/VarHandle" ∧ (parseMethodDescriptor yX2_gable.desc).map (fun d => d.parameters.length) = some 1 := by decide +kernel
theorem sgX2_depth : yX2_depth.cls = RX2 ∧ yX2_depth.cls ≠ "java/lang/invoke/MethodHandle" ∧ yX2_depth.cls ≠ "java/lang/invoke/VarHandle" ∧ (parseMethodDescriptor yX2_depth.desc).map (fun d => d.parameters.length) = some 1 := by decide +kernel
theorem sgX2_width : yX2_width.cls = RX2 ∧ yX2_width.cls ≠ "java/lang/invoke/MethodHandle" ∧ yX2_width.cls ≠ "java/lang/invoke/VarHandle" ∧ (parseMethodDescriptor yX2_width.desc).map (fun d => d.parameters.length) = some 1 := by decide +kernel
theorem sgX2_far : yX2_far.cls = RX2 ∧ yX2_far.cls ≠ "java/lang/invoke/MethodHandle" ∧ yX2_far.cls ≠ "java/lang/invoke/VarHandle" ∧ (parseMethodDescriptor yX2_far.desc).map (fun d => d.parameters.length) = some 3 := by decide +kernel
theorem sgX2_lowest : yX2_lowest.cls = RX2 ∧ yX2_lowest.cls ≠ "java/lang/invoke/MethodHandle" ∧ yX2_lowest.cls ≠ "java/lang/invoke/VarHandle" ∧ (parseMethodDescriptor yX2_lowest.desc).map (fun d => d.parameters.length) = some 2 := by decide +kernel
theorem sgX2_isInside : yX2_isInside.cls = RX2 ∧ yX2_isInside.cls ≠ "java/lang/invoke/MethodHandle" ∧ yX2_isInside.cls ≠ "java/lang/invoke/VarHandle" ∧ (parseMethodDescriptor yX2_isInside.desc).map (fun d => d.parameters.length) = some 2 := by decide +kernel
theorem sgX2_place : yX2_place.cls = RX2 ∧ yX2_place.cls ≠ "java/lang/invoke/MethodHandle" ∧ yX2_place.cls ≠ "java/lang/invoke/VarHandle" ∧ (parseMethodDescriptor yX2_place.desc).map (fun d => d.parameters.length) = some 3 := by decide +kernel
theorem sgX2_face : yX2_face.cls = RX2 ∧ yX2_face.cls ≠ "java/lang/invoke/MethodHandle" ∧ yX2_face.cls ≠ "java/lang/invoke/VarHandle" ∧ (parseMethodDescriptor yX2_face.desc).map (fun d => d.parameters.length) = some 2 := by decide +kernel
theorem sgX2_sideCode : yX2_sideCode.cls = RX2 ∧ yX2_sideCode.cls ≠ "java/lang/invoke/MethodHandle" ∧ yX2_sideCode.cls ≠ "java/lang/invoke/VarHandle" ∧ (parseMethodDescriptor yX2_sideCode.desc).map (fun d => d.parameters.length) = some 1 := by decide +kernel
theorem sgX2_rafterCode : yX2_rafterCode.cls = RX2 ∧ yX2_rafterCode.cls ≠ "java/lang/invoke/MethodHandle" ∧ yX2_rafterCode.cls ≠ "java/lang/invoke/VarHandle" ∧ (parseMethodDescriptor yX2_rafterCode.desc).map (fun d => d.parameters.length) = some 2 := by decide +kernel
theorem sgX2_rafter : yX2_rafter.cls = RX2 ∧ yX2_rafter.cls ≠ "java/lang/invoke/MethodHandle" ∧ yX2_rafter.cls ≠ "java/lang/invoke/VarHandle" ∧ (parseMethodDescriptor yX2_rafter.desc).map (fun d => d.parameters.length) = some 2 := by decide +kernel
theorem sgX2_ends : yX2_ends.cls = RX2 ∧ yX2_ends.cls ≠ "java/lang/invoke/MethodHandle" ∧ yX2_ends.cls ≠ "java/lang/invoke/VarHandle" ∧ (parseMethodDescriptor yX2_ends.desc).map (fun d => d.parameters.length) = some 3 := by decide +kernel
theorem sgX2_ending : yX2_ending.cls = RX2 ∧ yX2_ending.cls ≠ "java/lang/invoke/MethodHandle" ∧ yX2_ending.cls ≠ "java/lang/invoke/VarHandle" ∧ (parseMethodDescriptor yX2_ending.desc).map (fun d => d.parameters.length) = some 2 := by decide +kernel
theorem sgX2_end : yX2_end.cls = RX2 ∧ yX2_end.cls ≠ "java/lang/invoke/MethodHandle" ∧ yX2_end.cls ≠ "java/lang/invoke/VarHandle" ∧ (parseMethodDescriptor yX2_end.desc).map (fun d => d.parameters.length) = some 3 := by decide +kernel
theorem sgX2_against : yX2_against.cls = RX2 ∧ yX2_against.cls ≠ "java/lang/invoke/MethodHandle" ∧ yX2_against.cls ≠ "java/lang/invoke/VarHandle" ∧ (parseMethodDescriptor yX2_against.desc).map (fun d => d.parameters.length) = some 2 := by decide +kernel
theorem sgX2_length : yX2_length.cls = RX2 ∧ yX2_length.cls ≠ "java/lang/invoke/MethodHandle" ∧ yX2_length.cls ≠ "java/lang/invoke/VarHandle" ∧ (parseMethodDescriptor yX2_length.desc).map (fun d => d.parameters.length) = some 3 := by decide +kernel
theorem sgX2_tangent : yX2_tangent.cls = RX2 ∧ yX2_tangent.cls ≠ "java/lang/invoke/MethodHandle" ∧ yX2_tangent.cls ≠ "java/lang/invoke/VarHandle" ∧ (parseMethodDescriptor yX2_tangent.desc).map (fun d => d.parameters.length) = some 4 := by decide +kernel
theorem sgX2_mouth : yX2_mouth.cls = RX2 ∧ yX2_mouth.cls ≠ "java/lang/invoke/MethodHandle" ∧ yX2_mouth.cls ≠ "java/lang/invoke/VarHandle" ∧ (parseMethodDescriptor yX2_mouth.desc).map (fun d => d.parameters.length) = some 3 := by decide +kernel
theorem sgX2_top : yX2_top.cls = RX2 ∧ yX2_top.cls ≠ "java/lang/invoke/MethodHandle" ∧ yX2_top.cls ≠ "java/lang/invoke/VarHandle" ∧ (parseMethodDescriptor yX2_top.desc).map (fun d => d.parameters.length) = some 1 := by decide +kernel
theorem sgX2_makePeak : yX2_makePeak.cls = RX2 ∧ yX2_makePeak.cls ≠ "java/lang/invoke/MethodHandle" ∧ yX2_makePeak.cls ≠ "java/lang/invoke/VarHandle" ∧ (parseMethodDescriptor yX2_makePeak.desc).map (fun d => d.parameters.length) = some 0 := by decide +kernel
theorem sgX2_peak : yX2_peak.cls = RX2 ∧ yX2_peak.cls ≠ "java/lang/invoke/MethodHandle" ∧ yX2_peak.cls ≠ "java/lang/invoke/VarHandle" ∧ (parseMethodDescriptor yX2_peak.desc).map (fun d => d.parameters.length) = some 1 := by decide +kernel
theorem sgX2_makeFar : yX2_makeFar.cls = RX2 ∧ yX2_makeFar.cls ≠ "java/lang/invoke/MethodHandle" ∧ yX2_makeFar.cls ≠ "java/lang/invoke/VarHandle" ∧ (parseMethodDescriptor yX2_makeFar.desc).map (fun d => d.parameters.length) = some 1 := by decide +kernel
theorem sgX2_ridge : yX2_ridge.cls = RX2 ∧ yX2_ridge.cls ≠ "java/lang/invoke/MethodHandle" ∧ yX2_ridge.cls ≠ "java/lang/invoke/VarHandle" ∧ (parseMethodDescriptor yX2_ridge.desc).map (fun d => d.parameters.length) = some 2 := by decide +kernel
theorem sgX2_hip : yX2_hip.cls = RX2 ∧ yX2_hip.cls ≠ "java/lang/invoke/MethodHandle" ∧ yX2_hip.cls ≠ "java/lang/invoke/VarHandle" ∧ (parseMethodDescriptor yX2_hip.desc).map (fun d => d.parameters.length) = some 3 := by decide +kernel
theorem sgX2_area : yX2_area.cls = RX2 ∧ yX2_area.cls ≠ "java/lang/invoke/MethodHandle" ∧ yX2_area.cls ≠ "java/lang/invoke/VarHandle" ∧ (parseMethodDescriptor yX2_area.desc).map (fun d => d.parameters.length) = some 2 := by decide +kernel
theorem sgX2_batten : yX2_batten.cls = RX2 ∧ yX2_batten.cls ≠ "java/lang/invoke/MethodHandle" ∧ yX2_batten.cls ≠ "java/lang/invoke/VarHandle" ∧ (parseMethodDescriptor yX2_batten.desc).map (fun d => d.parameters.length) = some 2 := by decide +kernel
theorem sgL_outline : yL_outline.cls = RL ∧ yL_outline.cls ≠ "java/lang/invoke/MethodHandle" ∧ yL_outline.cls ≠ "java/lang/invoke/VarHandle" ∧ (parseMethodDescriptor yL_outline.desc).map (fun d => d.parameters.length) = some 4 := by decide +kernel
theorem sgL_slope : yL_slope.cls = RL ∧ yL_slope.cls ≠ "java/lang/invoke/MethodHandle" ∧ yL_slope.cls ≠ "java/lang/invoke/VarHandle" ∧ (parseMethodDescriptor yL_slope.desc).map (fun d => d.parameters.length) = some 5 := by decide +kernel
theorem sgL_gable : yL_gable.cls = RL ∧ yL_gable.cls ≠ "java/lang/invoke/MethodHandle" ∧ yL_gable.cls ≠ "java/lang/invoke/VarHandle" ∧ (parseMethodDescriptor yL_gable.desc).map (fun d => d.parameters.length) = some 3 := by decide +kernel
theorem sgL_place : yL_place.cls = RL ∧ yL_place.cls ≠ "java/lang/invoke/MethodHandle" ∧ yL_place.cls ≠ "java/lang/invoke/VarHandle" ∧ (parseMethodDescriptor yL_place.desc).map (fun d => d.parameters.length) = some 5 := by decide +kernel
theorem sgL_face : yL_face.cls = RL ∧ yL_face.cls ≠ "java/lang/invoke/MethodHandle" ∧ yL_face.cls ≠ "java/lang/invoke/VarHandle" ∧ (parseMethodDescriptor yL_face.desc).map (fun d => d.parameters.length) = some 4 := by decide +kernel
theorem sgL_rafter : yL_rafter.cls = RL ∧ yL_rafter.cls ≠ "java/lang/invoke/MethodHandle" ∧ yL_rafter.cls ≠ "java/lang/invoke/VarHandle" ∧ (parseMethodDescriptor yL_rafter.desc).map (fun d => d.parameters.length) = some 4 := by decide +kernel
theorem sgL_end : yL_end.cls = RL ∧ yL_end.cls ≠ "java/lang/invoke/MethodHandle" ∧ yL_end.cls ≠ "java/lang/invoke/VarHandle" ∧ (parseMethodDescriptor yL_end.desc).map (fun d => d.parameters.length) = some 5 := by decide +kernel
theorem sgL_against : yL_against.cls = RL ∧ yL_against.cls ≠ "java/lang/invoke/MethodHandle" ∧ yL_against.cls ≠ "java/lang/invoke/VarHandle" ∧ (parseMethodDescriptor yL_against.desc).map (fun d => d.parameters.length) = some 4 := by decide +kernel
theorem sgL_length : yL_length.cls = RL ∧ yL_length.cls ≠ "java/lang/invoke/MethodHandle" ∧ yL_length.cls ≠ "java/lang/invoke/VarHandle" ∧ (parseMethodDescriptor yL_length.desc).map (fun d => d.parameters.length) = some 5 := by decide +kernel
theorem sgL_tangent : yL_tangent.cls = RL ∧ yL_tangent.cls ≠ "java/lang/invoke/MethodHandle" ∧ yL_tangent.cls ≠ "java/lang/invoke/VarHandle" ∧ (parseMethodDescriptor yL_tangent.desc).map (fun d => d.parameters.length) = some 6 := by decide +kernel
theorem sgL_mouth : yL_mouth.cls = RL ∧ yL_mouth.cls ≠ "java/lang/invoke/MethodHandle" ∧ yL_mouth.cls ≠ "java/lang/invoke/VarHandle" ∧ (parseMethodDescriptor yL_mouth.desc).map (fun d => d.parameters.length) = some 5 := by decide +kernel
theorem sgL_hip : yL_hip.cls = RL ∧ yL_hip.cls ≠ "java/lang/invoke/MethodHandle" ∧ yL_hip.cls ≠ "java/lang/invoke/VarHandle" ∧ (parseMethodDescriptor yL_hip.desc).map (fun d => d.parameters.length) = some 5 := by decide +kernel
theorem sgL_peak : yL_peak.cls = RL ∧ yL_peak.cls ≠ "java/lang/invoke/MethodHandle" ∧ yL_peak.cls ≠ "java/lang/invoke/VarHandle" ∧ (parseMethodDescriptor yL_peak.desc).map (fun d => d.parameters.length) = some 3 := by decide +kernel
theorem sgL_ridge : yL_ridge.cls = RL ∧ yL_ridge.cls ≠ "java/lang/invoke/MethodHandle" ∧ yL_ridge.cls ≠ "java/lang/invoke/VarHandle" ∧ (parseMethodDescriptor yL_ridge.desc).map (fun d => d.parameters.length) = some 4 := by decide +kernel
theorem sgL_area : yL_area.cls = RL ∧ yL_area.cls ≠ "java/lang/invoke/MethodHandle" ∧ yL_area.cls ≠ "java/lang/invoke/VarHandle" ∧ (parseMethodDescriptor yL_area.desc).map (fun d => d.parameters.length) = some 4 := by decide +kernel
theorem sgL_batten : yL_batten.cls = RL ∧ yL_batten.cls ≠ "java/lang/invoke/MethodHandle" ∧ yL_batten.cls ≠ "java/lang/invoke/VarHandle" ∧ (parseMethodDescriptor yL_batten.desc).map (fun d => d.parameters.length) = some 4 := by decide +kernel
theorem sgL_law : yL_law.cls = RL ∧ yL_law.cls ≠ "java/lang/invoke/MethodHandle" ∧ yL_law.cls ≠ "java/lang/invoke/VarHandle" ∧ (parseMethodDescriptor yL_law.desc).map (fun d => d.parameters.length) = some 1 := by decide +kernel
end
section
theorem ln_ne {d : Nat} (h0 : 0 < d) (hd : d < 2 ^ 63) : ¬ lN d = 0 := fun h => by
  have h1 := (pk_lEQ hd (by decide : 0 < 2 ^ 63)).mp (h.trans (by decide : (0 : Int64) = lN 0))
  omega
theorem eu_step {n a b : Nat} (h : b ≠ 0) : eu (n + 1) a b = eu n b (a % b) := by rw [eu, if_neg h]
theorem eu_zero {n a : Nat} : eu n a 0 = a := by cases n <;> simp [eu]
theorem eu_pos : ∀ (n a b : Nat), 0 < a ∨ 0 < b → (n = 0 → 0 < a) → 0 < eu n a b := by
  intro n
  induction n with
  | zero => intro a b _ h2; exact h2 rfl
  | succ n ih =>
    intro a b h1 _
    by_cases hb : b = 0
    · subst hb; rw [eu_zero]; omega
    · rw [eu_step hb]; exact ih b (a % b) (Or.inl (by omega)) (fun _ => by omega)
set_option maxHeartbeats 4000000 in
set_option maxRecDepth 100000 in
theorem c_X0_commonDivisor (l : Launch) (g : En) (a b : Nat) (ha : a < 2 ^ 63) (hb : b < 2 ^ 63) (h0 : 0 < b) : PM l yX0_commonDivisor cX0_commonDivisor 11 (some FieldType.long) { frames := 0, cells := 0, slots := 0, locals := 0 } g [.long (lN a), .long (lN b)] (fun H => True) 0 0 (rL (Nat.gcd a b)) := by
  refine PM.of (by decide) (Nat.le_of_ble_eq_true rfl) (fun p e s m below meth c ls X _ hl => ?_)
  have loop : ∀ (n i a1 b1 : Nat), i + n = 100 → a1 < 2 ^ 63 → b1 < 2 ^ 63 → eu n a1 b1 = Nat.gcd a b → ∀ (ls : Array Slot), lv_has ls 11 [(8, .int (nI i)), (6, .long (lN b1)), (4, .long (lN a1)), (0, .long (lN a)), (2, .long (lN b))] →
      W p l e { frames := 0, cells := 0, slots := 0, locals := 0 } s m ([.long (lN a), .long (lN b)] : List Value).toArray below meth c s.heap [] 0 0 (MQ below (pQ (rL (Nat.gcd a b))) ([.long (lN a), .long (lN b)] : List Value).toArray s 0 0 (fun q => s.heap.size ≤ q)) (F0 m 9 ls []) := by
    intro n
    induction n with
    | zero =>
      intro i a1 b1 hi ha1 hb1 hg ls hl
      have hX : hxt s.heap s.heap := hxt.rf
      have hg : a1 = Nat.gcd a b := hg
      refine lv_iload X.1 X.2.1 dX0_commonDivisor_9 (lv_at hl 0 rfl) ?_
      refine lv_bipush (v := nI 100) X.1 X.2.1 dX0_commonDivisor_11 (by decide) ?_
      refine q_Ige X (by omega) (by omega) (tgt := 44) dX0_commonDivisor_13 (by decide) (fun hB1 => ?_) (fun hB1 => ?_)
      ·
        refine lv_lload X.1 X.2.1 dX0_commonDivisor_44 (lv_at hl 2 rfl) ?_
        refine lv_lconst (v := lN 0) X.1 X.2.1 dX0_commonDivisor_46 (by decide) ?_
        refine q_Nle X (by omega) (by omega) (tgt := 56) dX0_commonDivisor_47 dX0_commonDivisor_48 (by decide) (fun hB2 => ?_) (fun hB2 => ?_)
        ·
          exact absurd hB2 (by have := Nat.gcd_pos_of_pos_right a h0; omega)
        ·
          refine lv_lload X.1 X.2.1 dX0_commonDivisor_51 (lv_at hl 2 rfl) ?_
          refine lv_goto (tgt := 57) X.1 X.2.1 dX0_commonDivisor_53 (by decide) ?_
          exact p_lret X hX (by rw [rL, hg]) ⟨by decide, by decide⟩ dX0_commonDivisor_57
      ·
        exact absurd hB1 (by omega)
    | succ n ih =>
      intro i a1 b1 hi ha1 hb1 hg ls hl
      have hX : hxt s.heap s.heap := hxt.rf
      refine lv_iload X.1 X.2.1 dX0_commonDivisor_9 (lv_at hl 0 rfl) ?_
      refine lv_bipush (v := nI 100) X.1 X.2.1 dX0_commonDivisor_11 (by decide) ?_
      refine q_Ige X (by omega) (by omega) (tgt := 44) dX0_commonDivisor_13 (by decide) (fun hB1 => ?_) (fun hB1 => ?_)
      ·
        exact absurd hB1 (by omega)
      ·
        refine lv_lload X.1 X.2.1 dX0_commonDivisor_16 (lv_at hl 1 rfl) ?_
        refine lv_lconst (v := lN 0) X.1 X.2.1 dX0_commonDivisor_18 (by decide) ?_
        refine q_Neq X (by omega) (by omega) (tgt := 44) dX0_commonDivisor_19 dX0_commonDivisor_20 (by decide) (fun hB2 => ?_) (fun hB2 => ?_)
        ·
          subst hB2
          have hg : a1 = Nat.gcd a b := by rw [← hg, eu_zero]
          refine lv_lload X.1 X.2.1 dX0_commonDivisor_44 (lv_at hl 2 rfl) ?_
          refine lv_lconst (v := lN 0) X.1 X.2.1 dX0_commonDivisor_46 (by decide) ?_
          refine q_Nle X (by omega) (by omega) (tgt := 56) dX0_commonDivisor_47 dX0_commonDivisor_48 (by decide) (fun hB3 => ?_) (fun hB3 => ?_)
          ·
            exact absurd hB3 (by have := Nat.gcd_pos_of_pos_right a h0; omega)
          ·
            refine lv_lload X.1 X.2.1 dX0_commonDivisor_51 (lv_at hl 2 rfl) ?_
            refine lv_goto (tgt := 57) X.1 X.2.1 dX0_commonDivisor_53 (by decide) ?_
            exact p_lret X hX (by rw [rL, hg]) ⟨by decide, by decide⟩ dX0_commonDivisor_57
        ·
          have hlt : a1 % b1 < b1 := Nat.mod_lt _ (by omega)
          refine lv_lload X.1 X.2.1 dX0_commonDivisor_23 (lv_at hl 2 rfl) ?_
          refine lv_lload X.1 X.2.1 dX0_commonDivisor_25 (lv_at hl 1 rfl) ?_
          refine lv_lrem X.1 X.2.1 dX0_commonDivisor_27 (ln_ne (by omega) hb1) ?_
          refine w_l (pk_lRem ha1 (by omega) hb1) ?_
          refine lv_lstore (lv' := [(9, .long (lN (a1 % b1))), (8, .int (nI i)), (6, .long (lN b1)), (4, .long (lN a1)), (0, .long (lN a)), (2, .long (lN b))]) X.1 X.2.1 dX0_commonDivisor_28 hl (by decide) rfl (fun ls hl => ?_)
          refine lv_lload X.1 X.2.1 dX0_commonDivisor_30 (lv_at hl 2 rfl) ?_
          refine lv_lstore (lv' := [(4, .long (lN b1)), (9, .long (lN (a1 % b1))), (8, .int (nI i)), (6, .long (lN b1)), (0, .long (lN a)), (2, .long (lN b))]) X.1 X.2.1 dX0_commonDivisor_32 hl (by decide) rfl (fun ls hl => ?_)
          refine lv_lload X.1 X.2.1 dX0_commonDivisor_34 (lv_at hl 1 rfl) ?_
          refine lv_lstore (lv' := [(6, .long (lN (a1 % b1))), (4, .long (lN b1)), (9, .long (lN (a1 % b1))), (8, .int (nI i)), (0, .long (lN a)), (2, .long (lN b))]) X.1 X.2.1 dX0_commonDivisor_36 hl (by decide) rfl (fun ls hl => ?_)
          refine lv_iinc (v := nI (i + 1)) (lv' := [(8, .int (nI (i + 1))), (6, .long (lN (a1 % b1))), (4, .long (lN b1)), (9, .long (lN (a1 % b1))), (0, .long (lN a)), (2, .long (lN b))]) X.1 X.2.1 dX0_commonDivisor_38 hl (k := 3) rfl (nI_1 i) (by decide) rfl (fun ls hl => ?_)
          refine lv_goto (tgt := 9) X.1 X.2.1 dX0_commonDivisor_41 (by decide) ?_
          exact ih (i + 1) b1 (a1 % b1) (by omega) hb1 (by omega) (by rw [← hg, eu_step hB2]) ls (lv_sub hl [0, 1, 2, 4, 5] rfl)
  have hl : lv_has ls 11 [(0, .long (lN a)), (2, .long (lN b))] := hl
  have hX : hxt s.heap s.heap := hxt.rf
  refine lv_lload_n X.1 X.2.1 dX0_commonDivisor_0 rfl (lv_at hl 0 rfl) ?_
  refine lv_lstore (lv' := [(4, .long (lN a)), (0, .long (lN a)), (2, .long (lN b))]) X.1 X.2.1 dX0_commonDivisor_1 hl (by decide) rfl (fun ls hl => ?_)
  refine lv_lload_n X.1 X.2.1 dX0_commonDivisor_3 rfl (lv_at hl 2 rfl) ?_
  refine lv_lstore (lv' := [(6, .long (lN b)), (4, .long (lN a)), (0, .long (lN a)), (2, .long (lN b))]) X.1 X.2.1 dX0_commonDivisor_4 hl (by decide) rfl (fun ls hl => ?_)
  refine lv_iconst (v := nI 0) X.1 X.2.1 dX0_commonDivisor_6 (by decide) ?_
  refine lv_istore (lv' := [(8, .int (nI 0)), (6, .long (lN b)), (4, .long (lN a)), (0, .long (lN a)), (2, .long (lN b))]) X.1 X.2.1 dX0_commonDivisor_7 hl (by decide) rfl (fun ls hl => ?_)
  exact loop 100 0 a b rfl ha hb (eu_gcd hb) ls (lv_sub hl [0, 1, 2, 3, 4] rfl)
set_option maxHeartbeats 4000000 in
set_option maxRecDepth 100000 in
theorem c_X0_init (l : Launch) (g : En) (o n d : Nat) (h0 : 0 < d) (hn : n < 2 ^ 63) (hd : d < 2 ^ 63) : IM l yX0_init cX0_init 9 { frames := 1, cells := 0, slots := 0, locals := 30 } g o [.long (lN n), .long (lN d)] (fun H => PP g [(o, .inr (0, [.long 0, .long 0]))] H) 0 0 (fun H => va_at g.1 cl0 (fq o ((n : Rat) / (d : Rat))) H) := by
  refine IM.of (by decide) (Nat.le_of_ble_eq_true rfl) (fun p e s m below meth c ls X hP hl => ?_)
  obtain ⟨f1, f2, f3⟩ := fr_mk (n := n) h0
  have hg := Nat.gcd_pos_of_pos_right n h0
  have hg2 : Nat.gcd n d ≤ d := Nat.le_of_dvd h0 (Nat.gcd_dvd_right n d)
  have hq : 0 < d / Nat.gcd n d := Nat.div_pos hg2 hg
  have hq2 : d / Nat.gcd n d ≤ d := Nat.div_le_self _ _
  have hl : lv_has ls 9 [(0, .ref o), (1, .long (lN n)), (3, .long (lN d))] := hl
  have hX : hxt s.heap s.heap := hxt.rf
  have hP : PP g [(o, .inr (0, [.long 0, .long 0]))] s.heap := hP
  refine lv_aload_n X.1 X.2.1 dX0_init_0 rfl (lv_at hl 0 rfl) ?_
  refine W.objInit X.1 X.2.1 X.2.2.2.1 (X.2.2.2.2.1 _ (List.mem_cons_of_mem _ mw_64)) (X.2.2.2.2.1 _ (List.mem_cons_of_mem _ mw_54)) (X.2.2.2.2.1 _ (List.mem_cons_of_mem _ mw_55)) rfl (by rw [X.2.2.1]; exact hl.1) rfl dX0_init_1 (Nat.le_of_ble_eq_true rfl) (Nat.le_of_ble_eq_true rfl) ?_
  refine W.eq (g2 := F0 m 4 ls []) rfl ?_
  refine lv_lload_n X.1 X.2.1 dX0_init_4 rfl (lv_at hl 1 rfl) ?_
  refine lv_lload_n X.1 X.2.1 dX0_init_5 rfl (lv_at hl 2 rfl) ?_
  refine p_callS (As := [.long (lN n), .long (lN d)]) (rest := []) X (c_X0_commonDivisor l g n d hn hd h0) ⟨mw_65, mw_66, mw_39, mw_67⟩ sgX0_commonDivisor ⟨rfl, rfl, ⟨by decide, by decide⟩, by decide, by decide⟩ (trivial) hX.1 rfl hl.1 rfl (Nat.le_of_ble_eq_true rfl) dX0_init_6 (fun v H1 hk2 hp => ?_)
  obtain rfl := hp
  have hX := hX.tr hk2
  have hP := PP.ext hP hk2
  refine W.eq (g2 := F0 m 9 ls [.long (lN (Nat.gcd n d))]) rfl ?_
  refine lv_lstore (lv' := [(5, .long (lN (Nat.gcd n d))), (0, .ref o), (1, .long (lN n)), (3, .long (lN d))]) X.1 X.2.1 dX0_init_9 hl (by decide) rfl (fun ls hl => ?_)
  refine lv_lload_n X.1 X.2.1 dX0_init_11 rfl (lv_at hl 3 rfl) ?_
  refine lv_lload X.1 X.2.1 dX0_init_12 (lv_at hl 0 rfl) ?_
  refine lv_ldiv X.1 X.2.1 dX0_init_14 (ln_ne hg (by omega)) ?_
  refine w_l (pk_lDiv hd hg (by omega)) ?_
  refine lv_lstore (lv' := [(7, .long (lN (d / (Nat.gcd n d)))), (5, .long (lN (Nat.gcd n d))), (0, .ref o), (1, .long (lN n)), (3, .long (lN d))]) X.1 X.2.1 dX0_init_15 hl (by decide) rfl (fun ls hl => ?_)
  refine lv_aload_n X.1 X.2.1 dX0_init_17 rfl (lv_at hl 2 rfl) ?_
  refine lv_lload_n X.1 X.2.1 dX0_init_18 rfl (lv_at hl 3 rfl) ?_
  refine lv_lload X.1 X.2.1 dX0_init_19 (lv_at hl 1 rfl) ?_
  refine lv_ldiv X.1 X.2.1 dX0_init_21 (ln_ne hg (by omega)) ?_
  refine w_l (pk_lDiv hn hg (by omega)) ?_
  refine p_putF (T := TX0) (N := 2) (ci := 0) X tyX0 tyX0_ok nmX0 uX0 (hP.at 0 rfl) rfl 0 (by decide) mw_68 rfl rfl rfl (ty := .long) (by decide +kernel) rfl rfl (Nat.le_of_ble_eq_true rfl) (fun q h => nomatch h) dX0_init_22 (fun H3 locs hpa hloc hat => ?_)
  have hP : PP g [(o, .inr (0, [.long (lN (n / Nat.gcd n d)), .long 0]))] H3 := PP.one hat
  have hA : hxa o s.heap H3 := ⟨Nat.le_trans hX.1 hpa.1, fun q h1 h2 => (hpa.2 q (Nat.lt_of_lt_of_le h1 hX.1) h2).trans (hX.2 q h1)⟩
  refine lv_aload_n X.1 X.2.1 dX0_init_25 rfl (lv_at hl 2 rfl) ?_
  refine lv_lload X.1 X.2.1 dX0_init_26 (lv_at hl 0 rfl) ?_
  refine lv_lconst (v := lN 0) X.1 X.2.1 dX0_init_28 (by decide) ?_
  refine q_Nle X (by omega) (by omega) (tgt := 38) dX0_init_29 dX0_init_30 (by decide) (fun hB4 => ?_) (fun hB4 => ?_)
  ·
    exact absurd hB4 (by omega)
  ·
    refine lv_lload X.1 X.2.1 dX0_init_33 (lv_at hl 0 rfl) ?_
    refine lv_goto (tgt := 39) X.1 X.2.1 dX0_init_35 (by decide) ?_
    refine p_putF (T := TX0) (N := 2) (ci := 0) X tyX0 tyX0_ok nmX0 uX0 (hP.at 0 rfl) rfl 1 (by decide) mw_70 rfl rfl rfl (ty := .long) (by decide +kernel) rfl rfl (Nat.le_of_ble_eq_true rfl) hloc dX0_init_39 (fun H5 locs hpa hloc hat => ?_)
    have hP : PP g [(o, .inr (0, [.long (lN (n / Nat.gcd n d)), .long (lN (d / Nat.gcd n d))]))] H5 := PP.one hat
    have hA : hxa o s.heap H5 := ⟨Nat.le_trans hA.1 hpa.1, fun q h1 h2 => (hpa.2 q (Nat.lt_of_lt_of_le h1 hA.1) h2).trans (hA.2 q h1 h2)⟩
    rw [← f1, ← f2] at hP
    exact p_ivret X hA hloc (hP.at 0 rfl) ⟨by decide, by decide⟩ dX0_init_42
set_option maxHeartbeats 4000000 in
set_option maxRecDepth 100000 in
theorem c_X0_part (l : Launch) (g : En) (a k : Nat) (x : Rat) (hk : k < 2) : PM l yX0_part cX0_part 2 (some FieldType.long) { frames := 0, cells := 0, slots := 0, locals := 0 } g [.ref a, .int (nI k)] (fun H => PP g [fq a x] H) 0 0 (rL (if k = 0 then nu x else x.den)) := by
  refine PM.of (by decide) (Nat.le_of_ble_eq_true rfl) (fun p e s m below meth c ls X hP hl => ?_)
  have hl : lv_has ls 2 [(0, .ref a), (1, .int (nI k))] := hl
  have hX : hxt s.heap s.heap := hxt.rf
  have hP : PP g [fq a x] s.heap := hP
  refine lv_iload_n X.1 X.2.1 dX0_part_0 rfl (lv_at hl 1 rfl) ?_
  refine q_Zne X (by omega) (tgt := 11) dX0_part_1 (by decide) (fun hB1 => ?_) (fun hB1 => ?_)
  ·
    refine lv_aload_n X.1 X.2.1 dX0_part_11 rfl (lv_at hl 0 rfl) ?_
    refine p_get (T := TX0) X uX0 (hP.at 0 rfl) rfl 1 (by decide) mw_70 rfl rfl dX0_part_12 ?_
    exact p_lret X hX (by rw [rL, if_neg hB1]) ⟨by decide, by decide⟩ dX0_part_15
  ·
    refine lv_aload_n X.1 X.2.1 dX0_part_4 rfl (lv_at hl 0 rfl) ?_
    refine p_get (T := TX0) X uX0 (hP.at 0 rfl) rfl 0 (by decide) mw_68 rfl rfl dX0_part_5 ?_
    refine lv_goto (tgt := 15) X.1 X.2.1 dX0_part_8 (by decide) ?_
    exact p_lret X hX (by rw [rL, if_pos hB1]) ⟨by decide, by decide⟩ dX0_part_15
set_option maxHeartbeats 4000000 in
set_option maxRecDepth 100000 in
theorem c_X0_cutOff (l : Launch) (g : En) (a : Nat) (x : Rat) (hn : nu x < 2 ^ 63) (hd : x.den < 2 ^ 63) : PM l yX0_cutOff cX0_cutOff 1 (some FieldType.long) { frames := 0, cells := 0, slots := 0, locals := 0 } g [.ref a] (fun H => PP g [fq a x] H) 0 0 (rL (nu x / x.den)) := by
  refine PM.of (by decide) (Nat.le_of_ble_eq_true rfl) (fun p e s m below meth c ls X hP hl => ?_)
  have hl : lv_has ls 1 [(0, .ref a)] := hl
  have hX : hxt s.heap s.heap := hxt.rf
  have hP : PP g [fq a x] s.heap := hP
  refine lv_aload_n X.1 X.2.1 dX0_cutOff_0 rfl (lv_at hl 0 rfl) ?_
  refine p_get (T := TX0) X uX0 (hP.at 0 rfl) rfl 0 (by decide) mw_68 rfl rfl dX0_cutOff_1 ?_
  refine lv_aload_n X.1 X.2.1 dX0_cutOff_4 rfl (lv_at hl 0 rfl) ?_
  refine p_get (T := TX0) X uX0 (hP.at 0 rfl) rfl 1 (by decide) mw_70 rfl rfl dX0_cutOff_5 ?_
  refine lv_ldiv X.1 X.2.1 dX0_cutOff_8 (ln_ne (dn_pos x) hd) ?_
  refine w_l (pk_lDiv hn (dn_pos x) hd) ?_
  exact p_lret X hX (rfl) ⟨by decide, by decide⟩ dX0_cutOff_9
set_option maxHeartbeats 4000000 in
set_option maxRecDepth 100000 in
theorem c_X0_isLess (l : Launch) (g : En) (a b : Nat) (x y : Rat) (hx0 : 0 ≤ x) (hy0 : 0 ≤ y) (h1 : nu x * y.den < 2 ^ 63) (h2 : nu y * x.den < 2 ^ 63) : PM l yX0_isLess cX0_isLess 2 (some FieldType.boolean) { frames := 0, cells := 0, slots := 0, locals := 0 } g [.ref a, .ref b] (fun H => PP g [fq a x, fq b y] H) 0 0 (rB (decide (x < y))) := by
  refine PM.of (by decide) (Nat.le_of_ble_eq_true rfl) (fun p e s m below meth c ls X hP hl => ?_)
  have hlt := lt_nu hx0 hy0
  have hl : lv_has ls 2 [(0, .ref a), (1, .ref b)] := hl
  have hX : hxt s.heap s.heap := hxt.rf
  have hP : PP g [fq a x, fq b y] s.heap := hP
  refine lv_aload_n X.1 X.2.1 dX0_isLess_0 rfl (lv_at hl 0 rfl) ?_
  refine p_get (T := TX0) X uX0 (hP.at 0 rfl) rfl 0 (by decide) mw_68 rfl rfl dX0_isLess_1 ?_
  refine lv_aload_n X.1 X.2.1 dX0_isLess_4 rfl (lv_at hl 1 rfl) ?_
  refine p_get (T := TX0) X uX0 (hP.at 1 rfl) rfl 1 (by decide) mw_70 rfl rfl dX0_isLess_5 ?_
  refine lv_lmul X.1 X.2.1 dX0_isLess_8 ?_
  refine w_l (lN_mul _ _) ?_
  refine lv_aload_n X.1 X.2.1 dX0_isLess_9 rfl (lv_at hl 1 rfl) ?_
  refine p_get (T := TX0) X uX0 (hP.at 1 rfl) rfl 0 (by decide) mw_68 rfl rfl dX0_isLess_10 ?_
  refine lv_aload_n X.1 X.2.1 dX0_isLess_13 rfl (lv_at hl 0 rfl) ?_
  refine p_get (T := TX0) X uX0 (hP.at 0 rfl) rfl 1 (by decide) mw_70 rfl rfl dX0_isLess_14 ?_
  refine lv_lmul X.1 X.2.1 dX0_isLess_17 ?_
  refine w_l (lN_mul _ _) ?_
  refine q_Nge X h1 h2 (tgt := 26) dX0_isLess_18 dX0_isLess_19 (by decide) (fun hB1 => ?_) (fun hB1 => ?_)
  ·
    refine lv_iconst (v := nI 0) X.1 X.2.1 dX0_isLess_26 (by decide) ?_
    refine w_i (v' := bI false) (by decide) ?_
    exact p_zret (v := false) X hX (by rw [rB, show decide (x < y) = false from decide_eq_false (fun h => by have := hlt.mp h; omega)]; rfl) ⟨by decide, by decide⟩ dX0_isLess_27
  ·
    refine lv_iconst (v := nI 1) X.1 X.2.1 dX0_isLess_22 (by decide) ?_
    refine lv_goto (tgt := 27) X.1 X.2.1 dX0_isLess_23 (by decide) ?_
    refine w_i (v' := bI true) (by decide) ?_
    exact p_zret (v := true) X hX (by rw [rB, show decide (x < y) = true from decide_eq_true (hlt.mpr hB1)]; rfl) ⟨by decide, by decide⟩ dX0_isLess_27
set_option maxHeartbeats 4000000 in
set_option maxRecDepth 100000 in
theorem c_X0_isSame (l : Launch) (g : En) (a b : Nat) (x y : Rat) (hx0 : 0 ≤ x) (hy0 : 0 ≤ y) (h1 : nu x < 2 ^ 63) (h2 : nu y < 2 ^ 63) (h3 : x.den < 2 ^ 63) (h4 : y.den < 2 ^ 63) : PM l yX0_isSame cX0_isSame 2 (some FieldType.boolean) { frames := 0, cells := 0, slots := 0, locals := 0 } g [.ref a, .ref b] (fun H => PP g [fq a x, fq b y] H) 0 0 (rB (decide (x = y))) := by
  refine PM.of (by decide) (Nat.le_of_ble_eq_true rfl) (fun p e s m below meth c ls X hP hl => ?_)
  have hs := same_nu hx0 hy0
  have hl : lv_has ls 2 [(0, .ref a), (1, .ref b)] := hl
  have hX : hxt s.heap s.heap := hxt.rf
  have hP : PP g [fq a x, fq b y] s.heap := hP
  refine lv_aload_n X.1 X.2.1 dX0_isSame_0 rfl (lv_at hl 0 rfl) ?_
  refine p_get (T := TX0) X uX0 (hP.at 0 rfl) rfl 0 (by decide) mw_68 rfl rfl dX0_isSame_1 ?_
  refine lv_aload_n X.1 X.2.1 dX0_isSame_4 rfl (lv_at hl 1 rfl) ?_
  refine p_get (T := TX0) X uX0 (hP.at 1 rfl) rfl 0 (by decide) mw_68 rfl rfl dX0_isSame_5 ?_
  refine q_Nne X h1 h2 (tgt := 28) dX0_isSame_8 dX0_isSame_9 (by decide) (fun hB1 => ?_) (fun hB1 => ?_)
  ·
    refine lv_iconst (v := nI 0) X.1 X.2.1 dX0_isSame_28 (by decide) ?_
    refine w_i (v' := bI false) (by decide) ?_
    exact p_zret (v := false) X hX (by rw [rB, show decide (x = y) = false from decide_eq_false (fun h => hB1 (hs.mp h).1)]; rfl) ⟨by decide, by decide⟩ dX0_isSame_29
  ·
    refine lv_aload_n X.1 X.2.1 dX0_isSame_12 rfl (lv_at hl 0 rfl) ?_
    refine p_get (T := TX0) X uX0 (hP.at 0 rfl) rfl 1 (by decide) mw_70 rfl rfl dX0_isSame_13 ?_
    refine lv_aload_n X.1 X.2.1 dX0_isSame_16 rfl (lv_at hl 1 rfl) ?_
    refine p_get (T := TX0) X uX0 (hP.at 1 rfl) rfl 1 (by decide) mw_70 rfl rfl dX0_isSame_17 ?_
    refine q_Nne X h3 h4 (tgt := 28) dX0_isSame_20 dX0_isSame_21 (by decide) (fun hB2 => ?_) (fun hB2 => ?_)
    ·
      refine lv_iconst (v := nI 0) X.1 X.2.1 dX0_isSame_28 (by decide) ?_
      refine w_i (v' := bI false) (by decide) ?_
      exact p_zret (v := false) X hX (by rw [rB, show decide (x = y) = false from decide_eq_false (fun h => hB2 (hs.mp h).2)]; rfl) ⟨by decide, by decide⟩ dX0_isSame_29
    ·
      refine lv_iconst (v := nI 1) X.1 X.2.1 dX0_isSame_24 (by decide) ?_
      refine lv_goto (tgt := 29) X.1 X.2.1 dX0_isSame_25 (by decide) ?_
      refine w_i (v' := bI true) (by decide) ?_
      exact p_zret (v := true) X hX (by rw [rB, show decide (x = y) = true from decide_eq_true (hs.mpr ⟨hB1, hB2⟩)]; rfl) ⟨by decide, by decide⟩ dX0_isSame_29
set_option maxHeartbeats 4000000 in
set_option maxRecDepth 100000 in
theorem c_X0_plus (l : Launch) (g : En) (a b : Nat) (x y : Rat) (hx0 : 0 ≤ x) (hy0 : 0 ≤ y) (h1 : nu x * y.den + nu y * x.den < 2 ^ 63) (h2 : x.den * y.den < 2 ^ 63) : PM l yX0_plus cX0_plus 2 (some (FieldType.object "RafterPlaces$Fraction")) { frames := 2, cells := 1, slots := 2, locals := 58 } g [.ref a, .ref b] (fun H => PP g [fq a x, fq b y] H) 1 2 (rF g (x + y)) := by
  refine PM.of (by decide) (Nat.le_of_ble_eq_true rfl) (fun p e s m below meth c ls X hP hl => ?_)
  have hl : lv_has ls 2 [(0, .ref a), (1, .ref b)] := hl
  have hX : hxt s.heap s.heap := hxt.rf
  have hP : PP g [fq a x, fq b y] s.heap := hP
  refine p_new (C := RX0) (T := TX0) (N := 2) (ci := 0) X tyX0 tyX0_ok uX0 ⟨mw_332, mw_60, mw_39⟩ rfl [.long 0, .long 0] (fun j hj => by rcases (show j = 0 ∨ j = 1 by omega) with rfl | rfl <;> rfl) ⟨by decide, by decide⟩ dX0_plus_0 (fun q1 H2 eq1 zq1 kq1 hq1 => ?_)
  have hX0 := hX
  have hX := hX.tr kq1
  have hP0 := hP
  have hP := PP.ext hP kq1
  refine lv_dup X.1 X.2.1 dX0_plus_3 rfl ?_
  refine lv_aload_n X.1 X.2.1 dX0_plus_4 rfl (lv_at hl 0 rfl) ?_
  refine p_get (T := TX0) X uX0 (hP.at 0 rfl) rfl 0 (by decide) mw_68 rfl rfl dX0_plus_5 ?_
  refine lv_aload_n X.1 X.2.1 dX0_plus_8 rfl (lv_at hl 1 rfl) ?_
  refine p_get (T := TX0) X uX0 (hP.at 1 rfl) rfl 1 (by decide) mw_70 rfl rfl dX0_plus_9 ?_
  refine lv_lmul X.1 X.2.1 dX0_plus_12 ?_
  refine w_l (lN_mul _ _) ?_
  refine lv_aload_n X.1 X.2.1 dX0_plus_13 rfl (lv_at hl 1 rfl) ?_
  refine p_get (T := TX0) X uX0 (hP.at 1 rfl) rfl 0 (by decide) mw_68 rfl rfl dX0_plus_14 ?_
  refine lv_aload_n X.1 X.2.1 dX0_plus_17 rfl (lv_at hl 0 rfl) ?_
  refine p_get (T := TX0) X uX0 (hP.at 0 rfl) rfl 1 (by decide) mw_70 rfl rfl dX0_plus_18 ?_
  refine lv_lmul X.1 X.2.1 dX0_plus_21 ?_
  refine w_l (lN_mul _ _) ?_
  refine lv_ladd X.1 X.2.1 dX0_plus_22 ?_
  refine w_l (lN_add _ _) ?_
  refine lv_aload_n X.1 X.2.1 dX0_plus_23 rfl (lv_at hl 0 rfl) ?_
  refine p_get (T := TX0) X uX0 (hP.at 0 rfl) rfl 1 (by decide) mw_70 rfl rfl dX0_plus_24 ?_
  refine lv_aload_n X.1 X.2.1 dX0_plus_27 rfl (lv_at hl 1 rfl) ?_
  refine p_get (T := TX0) X uX0 (hP.at 1 rfl) rfl 1 (by decide) mw_70 rfl rfl dX0_plus_28 ?_
  refine lv_lmul X.1 X.2.1 dX0_plus_31 ?_
  refine w_l (lN_mul _ _) ?_
  refine p_callI (b := q1) (As := [.long (lN (((nu x) * y.den) + ((nu y) * x.den))), .long (lN (x.den * y.den))]) (rest := [.ref q1]) X (c_X0_init l g q1 (nu x * y.den + nu y * x.den) (x.den * y.den) (Nat.mul_pos (dn_pos x) (dn_pos y)) h1 h2) ⟨mw_333, mw_62, mw_39, mw_63⟩ rfl sgX0_init ⟨rfl, rfl, ⟨by decide, by decide⟩, by decide, by decide⟩ (PP.one hq1) hX.1 (by rw [eq1]; exact hX0.1) rfl hl.1 rfl (Nat.le_of_ble_eq_true rfl) dX0_plus_32 (fun H3 hkq1 hp => ?_)
  have keq1 := kq1.init (Nat.le_of_eq eq1.symm) hkq1
  have hX := hX0.tr keq1
  rw [← add_mk hx0 hy0] at hp
  have hP := PP.cons hp (PP.ext hP0 keq1)
  refine W.eq (g2 := F0 m 35 ls [.ref q1]) rfl ?_
  exact p_aret X hX (⟨_, rfl, hP.at 0 rfl⟩) ⟨by decide, by decide⟩ dX0_plus_35
set_option maxHeartbeats 4000000 in
set_option maxRecDepth 100000 in
theorem c_X0_times (l : Launch) (g : En) (a b : Nat) (x y : Rat) (hx0 : 0 ≤ x) (hy0 : 0 ≤ y) (h1 : nu x * nu y < 2 ^ 63) (h2 : x.den * y.den < 2 ^ 63) : PM l yX0_times cX0_times 2 (some (FieldType.object "RafterPlaces$Fraction")) { frames := 2, cells := 1, slots := 2, locals := 58 } g [.ref a, .ref b] (fun H => PP g [fq a x, fq b y] H) 1 2 (rF g (x * y)) := by
  refine PM.of (by decide) (Nat.le_of_ble_eq_true rfl) (fun p e s m below meth c ls X hP hl => ?_)
  have hl : lv_has ls 2 [(0, .ref a), (1, .ref b)] := hl
  have hX : hxt s.heap s.heap := hxt.rf
  have hP : PP g [fq a x, fq b y] s.heap := hP
  refine p_new (C := RX0) (T := TX0) (N := 2) (ci := 0) X tyX0 tyX0_ok uX0 ⟨mw_332, mw_60, mw_39⟩ rfl [.long 0, .long 0] (fun j hj => by rcases (show j = 0 ∨ j = 1 by omega) with rfl | rfl <;> rfl) ⟨by decide, by decide⟩ dX0_times_0 (fun q1 H2 eq1 zq1 kq1 hq1 => ?_)
  have hX0 := hX
  have hX := hX.tr kq1
  have hP0 := hP
  have hP := PP.ext hP kq1
  refine lv_dup X.1 X.2.1 dX0_times_3 rfl ?_
  refine lv_aload_n X.1 X.2.1 dX0_times_4 rfl (lv_at hl 0 rfl) ?_
  refine p_get (T := TX0) X uX0 (hP.at 0 rfl) rfl 0 (by decide) mw_68 rfl rfl dX0_times_5 ?_
  refine lv_aload_n X.1 X.2.1 dX0_times_8 rfl (lv_at hl 1 rfl) ?_
  refine p_get (T := TX0) X uX0 (hP.at 1 rfl) rfl 0 (by decide) mw_68 rfl rfl dX0_times_9 ?_
  refine lv_lmul X.1 X.2.1 dX0_times_12 ?_
  refine w_l (lN_mul _ _) ?_
  refine lv_aload_n X.1 X.2.1 dX0_times_13 rfl (lv_at hl 0 rfl) ?_
  refine p_get (T := TX0) X uX0 (hP.at 0 rfl) rfl 1 (by decide) mw_70 rfl rfl dX0_times_14 ?_
  refine lv_aload_n X.1 X.2.1 dX0_times_17 rfl (lv_at hl 1 rfl) ?_
  refine p_get (T := TX0) X uX0 (hP.at 1 rfl) rfl 1 (by decide) mw_70 rfl rfl dX0_times_18 ?_
  refine lv_lmul X.1 X.2.1 dX0_times_21 ?_
  refine w_l (lN_mul _ _) ?_
  refine p_callI (b := q1) (As := [.long (lN ((nu x) * (nu y))), .long (lN (x.den * y.den))]) (rest := [.ref q1]) X (c_X0_init l g q1 (nu x * nu y) (x.den * y.den) (Nat.mul_pos (dn_pos x) (dn_pos y)) h1 h2) ⟨mw_333, mw_62, mw_39, mw_63⟩ rfl sgX0_init ⟨rfl, rfl, ⟨by decide, by decide⟩, by decide, by decide⟩ (PP.one hq1) hX.1 (by rw [eq1]; exact hX0.1) rfl hl.1 rfl (Nat.le_of_ble_eq_true rfl) dX0_times_22 (fun H3 hkq1 hp => ?_)
  have keq1 := kq1.init (Nat.le_of_eq eq1.symm) hkq1
  have hX := hX0.tr keq1
  rw [← mul_mk hx0 hy0] at hp
  have hP := PP.cons hp (PP.ext hP0 keq1)
  refine W.eq (g2 := F0 m 25 ls [.ref q1]) rfl ?_
  exact p_aret X hX (⟨_, rfl, hP.at 0 rfl⟩) ⟨by decide, by decide⟩ dX0_times_25
set_option maxHeartbeats 4000000 in
set_option maxRecDepth 100000 in
theorem c_X0_dividedBy (l : Launch) (g : En) (a b : Nat) (x y : Rat) (hx0 : 0 ≤ x) (hy0 : 0 < y) (h1 : nu x * y.den < 2 ^ 63) (h2 : x.den * nu y < 2 ^ 63) : PM l yX0_dividedBy cX0_dividedBy 2 (some (FieldType.object "RafterPlaces$Fraction")) { frames := 2, cells := 1, slots := 2, locals := 58 } g [.ref a, .ref b] (fun H => PP g [fq a x, fq b y] H) 1 2 (rF g (x / y)) := by
  refine PM.of (by decide) (Nat.le_of_ble_eq_true rfl) (fun p e s m below meth c ls X hP hl => ?_)
  have hl : lv_has ls 2 [(0, .ref a), (1, .ref b)] := hl
  have hX : hxt s.heap s.heap := hxt.rf
  have hP : PP g [fq a x, fq b y] s.heap := hP
  refine p_new (C := RX0) (T := TX0) (N := 2) (ci := 0) X tyX0 tyX0_ok uX0 ⟨mw_332, mw_60, mw_39⟩ rfl [.long 0, .long 0] (fun j hj => by rcases (show j = 0 ∨ j = 1 by omega) with rfl | rfl <;> rfl) ⟨by decide, by decide⟩ dX0_dividedBy_0 (fun q1 H2 eq1 zq1 kq1 hq1 => ?_)
  have hX0 := hX
  have hX := hX.tr kq1
  have hP0 := hP
  have hP := PP.ext hP kq1
  refine lv_dup X.1 X.2.1 dX0_dividedBy_3 rfl ?_
  refine lv_aload_n X.1 X.2.1 dX0_dividedBy_4 rfl (lv_at hl 0 rfl) ?_
  refine p_get (T := TX0) X uX0 (hP.at 0 rfl) rfl 0 (by decide) mw_68 rfl rfl dX0_dividedBy_5 ?_
  refine lv_aload_n X.1 X.2.1 dX0_dividedBy_8 rfl (lv_at hl 1 rfl) ?_
  refine p_get (T := TX0) X uX0 (hP.at 1 rfl) rfl 1 (by decide) mw_70 rfl rfl dX0_dividedBy_9 ?_
  refine lv_lmul X.1 X.2.1 dX0_dividedBy_12 ?_
  refine w_l (lN_mul _ _) ?_
  refine lv_aload_n X.1 X.2.1 dX0_dividedBy_13 rfl (lv_at hl 0 rfl) ?_
  refine p_get (T := TX0) X uX0 (hP.at 0 rfl) rfl 1 (by decide) mw_70 rfl rfl dX0_dividedBy_14 ?_
  refine lv_aload_n X.1 X.2.1 dX0_dividedBy_17 rfl (lv_at hl 1 rfl) ?_
  refine p_get (T := TX0) X uX0 (hP.at 1 rfl) rfl 0 (by decide) mw_68 rfl rfl dX0_dividedBy_18 ?_
  refine lv_lmul X.1 X.2.1 dX0_dividedBy_21 ?_
  refine w_l (lN_mul _ _) ?_
  refine p_callI (b := q1) (As := [.long (lN ((nu x) * y.den)), .long (lN (x.den * (nu y)))]) (rest := [.ref q1]) X (c_X0_init l g q1 (nu x * y.den) (x.den * nu y) (Nat.mul_pos (dn_pos x) (nu_pos hy0)) h1 h2) ⟨mw_333, mw_62, mw_39, mw_63⟩ rfl sgX0_init ⟨rfl, rfl, ⟨by decide, by decide⟩, by decide, by decide⟩ (PP.one hq1) hX.1 (by rw [eq1]; exact hX0.1) rfl hl.1 rfl (Nat.le_of_ble_eq_true rfl) dX0_dividedBy_22 (fun H3 hkq1 hp => ?_)
  have keq1 := kq1.init (Nat.le_of_eq eq1.symm) hkq1
  have hX := hX0.tr keq1
  rw [← div_mk hx0 hy0] at hp
  have hP := PP.cons hp (PP.ext hP0 keq1)
  refine W.eq (g2 := F0 m 25 ls [.ref q1]) rfl ?_
  exact p_aret X hX (⟨_, rfl, hP.at 0 rfl⟩) ⟨by decide, by decide⟩ dX0_dividedBy_25
set_option maxHeartbeats 4000000 in
set_option maxRecDepth 100000 in
theorem c_X0_inverse (l : Launch) (g : En) (a : Nat) (x : Rat) (hx0 : 0 < x) (h1 : nu x < 2 ^ 63) (h2 : x.den < 2 ^ 63) : PM l yX0_inverse cX0_inverse 1 (some (FieldType.object "RafterPlaces$Fraction")) { frames := 2, cells := 1, slots := 2, locals := 58 } g [.ref a] (fun H => PP g [fq a x] H) 1 2 (rF g (x⁻¹)) := by
  refine PM.of (by decide) (Nat.le_of_ble_eq_true rfl) (fun p e s m below meth c ls X hP hl => ?_)
  have hl : lv_has ls 1 [(0, .ref a)] := hl
  have hX : hxt s.heap s.heap := hxt.rf
  have hP : PP g [fq a x] s.heap := hP
  refine p_new (C := RX0) (T := TX0) (N := 2) (ci := 0) X tyX0 tyX0_ok uX0 ⟨mw_332, mw_60, mw_39⟩ rfl [.long 0, .long 0] (fun j hj => by rcases (show j = 0 ∨ j = 1 by omega) with rfl | rfl <;> rfl) ⟨by decide, by decide⟩ dX0_inverse_0 (fun q1 H2 eq1 zq1 kq1 hq1 => ?_)
  have hX0 := hX
  have hX := hX.tr kq1
  have hP0 := hP
  have hP := PP.ext hP kq1
  refine lv_dup X.1 X.2.1 dX0_inverse_3 rfl ?_
  refine lv_aload_n X.1 X.2.1 dX0_inverse_4 rfl (lv_at hl 0 rfl) ?_
  refine p_get (T := TX0) X uX0 (hP.at 0 rfl) rfl 1 (by decide) mw_70 rfl rfl dX0_inverse_5 ?_
  refine lv_aload_n X.1 X.2.1 dX0_inverse_8 rfl (lv_at hl 0 rfl) ?_
  refine p_get (T := TX0) X uX0 (hP.at 0 rfl) rfl 0 (by decide) mw_68 rfl rfl dX0_inverse_9 ?_
  refine p_callI (b := q1) (As := [.long (lN x.den), .long (lN (nu x))]) (rest := [.ref q1]) X (c_X0_init l g q1 x.den (nu x) (nu_pos hx0) h2 h1) ⟨mw_333, mw_62, mw_39, mw_63⟩ rfl sgX0_init ⟨rfl, rfl, ⟨by decide, by decide⟩, by decide, by decide⟩ (PP.one hq1) hX.1 (by rw [eq1]; exact hX0.1) rfl hl.1 rfl (Nat.le_of_ble_eq_true rfl) dX0_inverse_12 (fun H3 hkq1 hp => ?_)
  have keq1 := kq1.init (Nat.le_of_eq eq1.symm) hkq1
  have hX := hX0.tr keq1
  rw [← inv_mk hx0] at hp
  have hP := PP.cons hp (PP.ext hP0 keq1)
  refine W.eq (g2 := F0 m 15 ls [.ref q1]) rfl ?_
  exact p_aret X hX (⟨_, rfl, hP.at 0 rfl⟩) ⟨by decide, by decide⟩ dX0_inverse_15
set_option maxHeartbeats 4000000 in
set_option maxRecDepth 100000 in
theorem c_X0_times_ (l : Launch) (g : En) (a w : Nat) (x : Rat) (hx0 : 0 ≤ x) (h1 : nu x * w < 2 ^ 63) (h2 : x.den < 2 ^ 63) : PM l yX0_times_ cX0_times_ 3 (some (FieldType.object "RafterPlaces$Fraction")) { frames := 2, cells := 1, slots := 2, locals := 58 } g [.ref a, .long (lN w)] (fun H => PP g [fq a x] H) 1 2 (rF g (x * (w : Rat))) := by
  refine PM.of (by decide) (Nat.le_of_ble_eq_true rfl) (fun p e s m below meth c ls X hP hl => ?_)
  have hl : lv_has ls 3 [(0, .ref a), (1, .long (lN w))] := hl
  have hX : hxt s.heap s.heap := hxt.rf
  have hP : PP g [fq a x] s.heap := hP
  refine p_new (C := RX0) (T := TX0) (N := 2) (ci := 0) X tyX0 tyX0_ok uX0 ⟨mw_332, mw_60, mw_39⟩ rfl [.long 0, .long 0] (fun j hj => by rcases (show j = 0 ∨ j = 1 by omega) with rfl | rfl <;> rfl) ⟨by decide, by decide⟩ dX0_times__0 (fun q1 H2 eq1 zq1 kq1 hq1 => ?_)
  have hX0 := hX
  have hX := hX.tr kq1
  have hP0 := hP
  have hP := PP.ext hP kq1
  refine lv_dup X.1 X.2.1 dX0_times__3 rfl ?_
  refine lv_aload_n X.1 X.2.1 dX0_times__4 rfl (lv_at hl 0 rfl) ?_
  refine p_get (T := TX0) X uX0 (hP.at 0 rfl) rfl 0 (by decide) mw_68 rfl rfl dX0_times__5 ?_
  refine lv_lload_n X.1 X.2.1 dX0_times__8 rfl (lv_at hl 1 rfl) ?_
  refine lv_lmul X.1 X.2.1 dX0_times__9 ?_
  refine w_l (lN_mul _ _) ?_
  refine lv_aload_n X.1 X.2.1 dX0_times__10 rfl (lv_at hl 0 rfl) ?_
  refine p_get (T := TX0) X uX0 (hP.at 0 rfl) rfl 1 (by decide) mw_70 rfl rfl dX0_times__11 ?_
  refine p_callI (b := q1) (As := [.long (lN ((nu x) * w)), .long (lN x.den)]) (rest := [.ref q1]) X (c_X0_init l g q1 (nu x * w) x.den (dn_pos x) h1 h2) ⟨mw_333, mw_62, mw_39, mw_63⟩ rfl sgX0_init ⟨rfl, rfl, ⟨by decide, by decide⟩, by decide, by decide⟩ (PP.one hq1) hX.1 (by rw [eq1]; exact hX0.1) rfl hl.1 rfl (Nat.le_of_ble_eq_true rfl) dX0_times__14 (fun H3 hkq1 hp => ?_)
  have keq1 := kq1.init (Nat.le_of_eq eq1.symm) hkq1
  have hX := hX0.tr keq1
  rw [← muln_mk hx0] at hp
  have hP := PP.cons hp (PP.ext hP0 keq1)
  refine W.eq (g2 := F0 m 17 ls [.ref q1]) rfl ?_
  exact p_aret X hX (⟨_, rfl, hP.at 0 rfl⟩) ⟨by decide, by decide⟩ dX0_times__17
set_option maxHeartbeats 4000000 in
set_option maxRecDepth 100000 in
theorem c_X0_takenFrom (l : Launch) (g : En) (a w : Nat) (x : Rat) (hx0 : 0 ≤ x) (hw : x ≤ (w : Rat)) (h1 : w * x.den < 2 ^ 63) (h2 : x.den < 2 ^ 63) : PM l yX0_takenFrom cX0_takenFrom 3 (some (FieldType.object "RafterPlaces$Fraction")) { frames := 2, cells := 1, slots := 2, locals := 58 } g [.ref a, .long (lN w)] (fun H => PP g [fq a x] H) 1 2 (rF g ((w : Rat) - x)) := by
  refine PM.of (by decide) (Nat.le_of_ble_eq_true rfl) (fun p e s m below meth c ls X hP hl => ?_)
  have hl : lv_has ls 3 [(0, .ref a), (1, .long (lN w))] := hl
  have hX : hxt s.heap s.heap := hxt.rf
  have hP : PP g [fq a x] s.heap := hP
  refine p_new (C := RX0) (T := TX0) (N := 2) (ci := 0) X tyX0 tyX0_ok uX0 ⟨mw_332, mw_60, mw_39⟩ rfl [.long 0, .long 0] (fun j hj => by rcases (show j = 0 ∨ j = 1 by omega) with rfl | rfl <;> rfl) ⟨by decide, by decide⟩ dX0_takenFrom_0 (fun q1 H2 eq1 zq1 kq1 hq1 => ?_)
  have hX0 := hX
  have hX := hX.tr kq1
  have hP0 := hP
  have hP := PP.ext hP kq1
  refine lv_dup X.1 X.2.1 dX0_takenFrom_3 rfl ?_
  refine lv_lload_n X.1 X.2.1 dX0_takenFrom_4 rfl (lv_at hl 1 rfl) ?_
  refine lv_aload_n X.1 X.2.1 dX0_takenFrom_5 rfl (lv_at hl 0 rfl) ?_
  refine p_get (T := TX0) X uX0 (hP.at 0 rfl) rfl 1 (by decide) mw_70 rfl rfl dX0_takenFrom_6 ?_
  refine lv_lmul X.1 X.2.1 dX0_takenFrom_9 ?_
  refine w_l (lN_mul _ _) ?_
  refine lv_aload_n X.1 X.2.1 dX0_takenFrom_10 rfl (lv_at hl 0 rfl) ?_
  refine p_get (T := TX0) X uX0 (hP.at 0 rfl) rfl 0 (by decide) mw_68 rfl rfl dX0_takenFrom_11 ?_
  refine lv_lsub X.1 X.2.1 dX0_takenFrom_14 ?_
  refine w_l (lN_sub ((le_nu hx0).mp hw)) ?_
  refine lv_aload_n X.1 X.2.1 dX0_takenFrom_15 rfl (lv_at hl 0 rfl) ?_
  refine p_get (T := TX0) X uX0 (hP.at 0 rfl) rfl 1 (by decide) mw_70 rfl rfl dX0_takenFrom_16 ?_
  refine p_callI (b := q1) (As := [.long (lN ((w * x.den) - (nu x))), .long (lN x.den)]) (rest := [.ref q1]) X (c_X0_init l g q1 (w * x.den - nu x) x.den (dn_pos x) (by omega) h2) ⟨mw_333, mw_62, mw_39, mw_63⟩ rfl sgX0_init ⟨rfl, rfl, ⟨by decide, by decide⟩, by decide, by decide⟩ (PP.one hq1) hX.1 (by rw [eq1]; exact hX0.1) rfl hl.1 rfl (Nat.le_of_ble_eq_true rfl) dX0_takenFrom_19 (fun H3 hkq1 hp => ?_)
  have keq1 := kq1.init (Nat.le_of_eq eq1.symm) hkq1
  have hX := hX0.tr keq1
  rw [← sub_mk hx0 ((le_nu hx0).mp hw)] at hp
  have hP := PP.cons hp (PP.ext hP0 keq1)
  refine W.eq (g2 := F0 m 22 ls [.ref q1]) rfl ?_
  exact p_aret X hX (⟨_, rfl, hP.at 0 rfl⟩) ⟨by decide, by decide⟩ dX0_takenFrom_22
end
section
theorem mlt {a b A B : Nat} (ha : a ≤ A) (hb : b ≤ B) (h : A * B < 2 ^ 63) : a * b < 2 ^ 63 := Nat.lt_of_le_of_lt (Nat.mul_le_mul ha hb) h
def b_plus (l : Launch) (g : En) (a b : Nat) {x y : Rat} {N D N' D' : Nat} (hx : bd x N D) (hy : bd y N' D') (h1 : N * D' + N' * D < 2 ^ 63) (h2 : D * D' < 2 ^ 63) := c_X0_plus l g a b x y hx.1 hy.1 (Nat.lt_of_le_of_lt (Nat.add_le_add (Nat.mul_le_mul hx.2.1 hy.2.2) (Nat.mul_le_mul hy.2.1 hx.2.2)) h1) (mlt hx.2.2 hy.2.2 h2)
def b_times (l : Launch) (g : En) (a b : Nat) {x y : Rat} {N D N' D' : Nat} (hx : bd x N D) (hy : bd y N' D') (h1 : N * N' < 2 ^ 63) (h2 : D * D' < 2 ^ 63) := c_X0_times l g a b x y hx.1 hy.1 (mlt hx.2.1 hy.2.1 h1) (mlt hx.2.2 hy.2.2 h2)
def b_timesn (l : Launch) (g : En) (a : Nat) {x : Rat} {w N D W : Nat} (hx : bd x N D) (hw : w ≤ W) (h1 : N * W < 2 ^ 63) (h2 : D < 2 ^ 63) := c_X0_times_ l g a w x hx.1 (mlt hx.2.1 hw h1) (Nat.lt_of_le_of_lt hx.2.2 h2)
def b_div (l : Launch) (g : En) (a b : Nat) {x y : Rat} {N D N' D' : Nat} (hx : bd x N D) (hy : bd y N' D') (h0 : 0 < y) (h1 : N * D' < 2 ^ 63) (h2 : D * N' < 2 ^ 63) := c_X0_dividedBy l g a b x y hx.1 h0 (mlt hx.2.1 hy.2.2 h1) (mlt hx.2.2 hy.2.1 h2)
def b_inv (l : Launch) (g : En) (a : Nat) {x : Rat} {N D : Nat} (hx : bd x N D) (h0 : 0 < x) (h1 : N < 2 ^ 63) (h2 : D < 2 ^ 63) := c_X0_inverse l g a x h0 (Nat.lt_of_le_of_lt hx.2.1 h1) (Nat.lt_of_le_of_lt hx.2.2 h2)
def b_sub (l : Launch) (g : En) (a : Nat) {x : Rat} {w N D W : Nat} (hx : bd x N D) (hw : x ≤ (w : Rat)) (hW : w ≤ W) (h1 : W * D < 2 ^ 63) (h2 : D < 2 ^ 63) := c_X0_takenFrom l g a w x hx.1 hw (mlt hW hx.2.2 h1) (Nat.lt_of_le_of_lt hx.2.2 h2)
def b_less (l : Launch) (g : En) (a b : Nat) {x y : Rat} {N D N' D' : Nat} (hx : bd x N D) (hy : bd y N' D') (h1 : N * D' < 2 ^ 63) (h2 : N' * D < 2 ^ 63) := c_X0_isLess l g a b x y hx.1 hy.1 (mlt hx.2.1 hy.2.2 h1) (mlt hy.2.1 hx.2.2 h2)
def b_same (l : Launch) (g : En) (a b : Nat) {x y : Rat} {N D N' D' : Nat} (hx : bd x N D) (hy : bd y N' D') (h1 : N < 2 ^ 63) (h2 : D < 2 ^ 63) (h3 : N' < 2 ^ 63) (h4 : D' < 2 ^ 63) := c_X0_isSame l g a b x y hx.1 hy.1 (Nat.lt_of_le_of_lt hx.2.1 h1) (Nat.lt_of_le_of_lt hy.2.1 h3) (Nat.lt_of_le_of_lt hx.2.2 h2) (Nat.lt_of_le_of_lt hy.2.2 h4)
def b_cut (l : Launch) (g : En) (a : Nat) {x : Rat} {N D : Nat} (hx : bd x N D) (h1 : N < 2 ^ 63) (h2 : D < 2 ^ 63) := c_X0_cutOff l g a x (Nat.lt_of_le_of_lt hx.2.1 h1) (Nat.lt_of_le_of_lt hx.2.2 h2)
/-! a roof: its extents, the runs of its sides (0: a gable) -/
def OK (X Y : Nat) (q : Nat → Rat) : Prop := (1 ≤ X ∧ X ≤ 2000) ∧ (1 ≤ Y ∧ Y ≤ 2000) ∧ (∀ k, k < 4 → bd (q k) 20 20) ∧ ∃ k, k < 4 ∧ q k ≠ 0
abbrev ob (o X Y r : Nat) : Nat × va_E := (o, .inr (1, [.long (lN X), .long (lN Y), .ref r]))
abbrev ar (g : En) (r : Nat) (A : Nat → Nat) : Nat × va_E := (r, .inl (g.2.1, 4, .inr (.inr (.inr (.inr (fun k => some (A k)))))))
def RF (g : En) (A : Nat → Nat) (q : Nat → Rat) (H : Heap) : Prop := ∀ k, k < 4 → va_at g.1 cl0 (fq (A k) (q k)) H
theorem RF.ext {g : En} {A : Nat → Nat} {q : Nat → Rat} {H H1 : Heap} (h : RF g A q H) (k : hxt H H1) : RF g A q H1 := fun i hi => (PP.ext (PP.one (h i hi)) k) 0 _ rfl
def RP (g : En) (o r : Nat) (A : Nat → Nat) (X Y : Nat) (q : Nat → Rat) (H : Heap) : Prop := PP g [ob o X Y r, ar g r A] H ∧ RF g A q H
theorem RP.of {g : En} {o r : Nat} {A : Nat → Nat} {X Y : Nat} {q : Nat → Rat} {H : Heap} {ws : va_W} (hP : PP g ws H) (is : List Nat) (h : is.filterMap (fun i => ws[i]?) = [ob o X Y r, ar g r A]) (hF : RF g A q H) : RP g o r A X Y q H := ⟨va_P.sub hP is h, hF⟩
def alongX (k : Nat) : Bool := decide (k = 0) || decide (k = 2)
def slen (X Y k : Nat) : Nat := if alongX k then X else Y
def wayo (X Y k : Nat) : Nat := if alongX k then Y else X
def dst (X Y k x y : Nat) : Nat := if k = 0 then y else if k = 1 then X - x else if k = 2 then Y - y else x
def gab (q : Nat → Rat) (k : Nat) : Bool := decide (q k = 0)
def hgt (X Y : Nat) (q : Nat → Rat) (x y k : Nat) : Rat := ((dst X Y k x y : Nat) : Rat) / q k
def lwp (X Y : Nat) (q : Nat → Rat) (x y : Nat) : Nat → Nat
  | 0 => 0
  | n + 1 => if gab q (n + 1) = false ∧ (gab q (lwp X Y q x y n) = true ∨ hgt X Y q x y (n + 1) < hgt X Y q x y (lwp X Y q x y n)) then n + 1 else lwp X Y q x y n
theorem lwp_le (X Y : Nat) (q : Nat → Rat) (x y n : Nat) : lwp X Y q x y n ≤ n := by
  induction n with
  | zero => exact Nat.le_refl _
  | succ n ih => simp only [lwp]; split <;> omega
theorem gab_pos {q : Nat → Rat} {k : Nat} (h : bd (q k) 20 20) (hg : gab q k = false) : 0 < q k := pos_of h.1 (of_decide_eq_false hg)
theorem slen_le {X Y : Nat} {q : Nat → Rat} (h : OK X Y q) (k : Nat) : slen X Y k ≤ 2000 := by
  unfold slen; split
  · exact h.1.2
  · exact h.2.1.2
theorem wayo_le {X Y : Nat} {q : Nat → Rat} (h : OK X Y q) (k : Nat) : wayo X Y k ≤ 2000 := by
  unfold wayo; split
  · exact h.2.1.2
  · exact h.1.2
theorem dst_le {X Y x y : Nat} {q : Nat → Rat} (h : OK X Y q) (hx : x ≤ X) (hy : y ≤ Y) (k : Nat) : dst X Y k x y ≤ 2000 := by
  have h1 := h.1.2
  have h2 := h.2.1.2
  unfold dst; split
  · omega
  · split
    · omega
    · split <;> omega
theorem bd_hgt {X Y x y : Nat} {q : Nat → Rat} (h : OK X Y q) (hx : x ≤ X) (hy : y ≤ Y) {k : Nat} (hk : k < 4) (hg : gab q k = false) : bd (hgt X Y q x y k) 40000 20 := by
  have h1 := bd_div (bd_nat (dst X Y k x y)) (h.2.2.1 k hk) (gab_pos (h.2.2.1 k hk) hg)
  exact h1.mono (by have := dst_le h hx hy k; omega) (by omega)
def opp (k : Nat) : Nat := (k + 2) % 4
def behind (k : Nat) : Nat := (k + 1) % 4
/-- how far in another side lets a rafter go -/
def lim (X Y : Nat) (q : Nat → Rat) (side t other : Nat) : Rat :=
  if other = opp side then q side / (q side + q other) * ((wayo X Y side : Nat) : Rat)
  else q side / q other * (((if other = 0 ∨ other = 3 then t else slen X Y side - t) : Nat) : Rat)
theorem bd_lim {X Y : Nat} {q : Nat → Rat} (h : OK X Y q) {side t other : Nat} (hs : side < 4) (ho : other < 4) (ht : t ≤ slen X Y side) (hg : gab q side = false) (hgo : other = opp side ∨ gab q other = false) : bd (lim X Y q side t other) 16000000 16000 := by
  have b1 := h.2.2.1 side hs
  have b2 := h.2.2.1 other ho
  have p1 := gab_pos b1 hg
  have hl := slen_le h side
  have hw := wayo_le h side
  unfold lim
  split
  · have b3 := bd_add b1 b2
    have p3 : 0 < q side + q other := by
      have := b2.1
      grind
    exact (bd_muln (w := wayo X Y side) (bd_div b1 b3 p3)).mono (by omega) (by omega)
  · have p2 : 0 < q other := gab_pos b2 (by
      rcases hgo with h9 | h9
      · contradiction
      · exact h9)
    refine (bd_muln (w := if other = 0 ∨ other = 3 then t else slen X Y side - t) (bd_div b1 b2 p2)).mono ?_ (by omega)
    have : (if other = 0 ∨ other = 3 then t else slen X Y side - t) ≤ 2000 := by split <;> omega
    omega
end
section
set_option maxHeartbeats 4000000 in
set_option maxRecDepth 100000 in
theorem c_X1_goesAlongX (l : Launch) (g : En) (k : Nat) (hk : k < 4) : PM l yX1_goesAlongX cX1_goesAlongX 1 (some FieldType.boolean) { frames := 0, cells := 0, slots := 0, locals := 0 } g [.int (nI k)] (fun H => True) 0 0 (rB (alongX k)) := by
  refine PM.of (by decide) (Nat.le_of_ble_eq_true rfl) (fun p e s m below meth c ls X _ hl => ?_)
  have hl : lv_has ls 1 [(0, .int (nI k))] := hl
  have hX : hxt s.heap s.heap := hxt.rf
  refine lv_iload_n X.1 X.2.1 dX1_goesAlongX_0 rfl (lv_at hl 0 rfl) ?_
  refine q_Zeq X (by omega) (tgt := 9) dX1_goesAlongX_1 (by decide) (fun hB1 => ?_) (fun hB1 => ?_)
  ·
    subst hB1
    refine lv_iconst (v := nI 1) X.1 X.2.1 dX1_goesAlongX_9 (by decide) ?_
    refine lv_goto (tgt := 14) X.1 X.2.1 dX1_goesAlongX_10 (by decide) ?_
    refine w_i (v' := bI true) (by decide) ?_
    exact p_zret (v := true) X hX (rfl) ⟨by decide, by decide⟩ dX1_goesAlongX_14
  ·
    refine lv_iload_n X.1 X.2.1 dX1_goesAlongX_4 rfl (lv_at hl 0 rfl) ?_
    refine lv_iconst (v := nI 2) X.1 X.2.1 dX1_goesAlongX_5 (by decide) ?_
    refine q_Ine X (by omega) (by omega) (tgt := 13) dX1_goesAlongX_6 (by decide) (fun hB2 => ?_) (fun hB2 => ?_)
    ·
      refine lv_iconst (v := nI 0) X.1 X.2.1 dX1_goesAlongX_13 (by decide) ?_
      refine w_i (v' := bI false) (by decide) ?_
      exact p_zret (v := false) X hX (by rw [rB, show alongX k = false by simp [alongX, hB1, hB2]]; rfl) ⟨by decide, by decide⟩ dX1_goesAlongX_14
    ·
      subst hB2
      refine lv_iconst (v := nI 1) X.1 X.2.1 dX1_goesAlongX_9 (by decide) ?_
      refine lv_goto (tgt := 14) X.1 X.2.1 dX1_goesAlongX_10 (by decide) ?_
      refine w_i (v' := bI true) (by decide) ?_
      exact p_zret (v := true) X hX (rfl) ⟨by decide, by decide⟩ dX1_goesAlongX_14
set_option maxHeartbeats 4000000 in
set_option maxRecDepth 100000 in
theorem c_X1_opposite (l : Launch) (g : En) (k : Nat) (hk : k < 4) : PM l yX1_opposite cX1_opposite 1 (some FieldType.int) { frames := 0, cells := 0, slots := 0, locals := 0 } g [.int (nI k)] (fun H => True) 0 0 (rI (opp k)) := by
  refine PM.of (by decide) (Nat.le_of_ble_eq_true rfl) (fun p e s m below meth c ls X _ hl => ?_)
  have hl : lv_has ls 1 [(0, .int (nI k))] := hl
  have hX : hxt s.heap s.heap := hxt.rf
  refine lv_iload_n X.1 X.2.1 dX1_opposite_0 rfl (lv_at hl 0 rfl) ?_
  refine lv_iconst (v := nI 2) X.1 X.2.1 dX1_opposite_1 (by decide) ?_
  refine lv_iadd X.1 X.2.1 dX1_opposite_2 ?_
  refine w_i (nI_add _ _) ?_
  refine lv_iconst (v := nI 4) X.1 X.2.1 dX1_opposite_3 (by decide) ?_
  refine lv_irem X.1 X.2.1 dX1_opposite_4 (nI_ne0 (by omega) (by omega)) ?_
  refine w_i (pk_rem (by omega) (by omega) (by omega)) ?_
  exact p_iret X hX (rfl) ⟨by decide, by decide⟩ dX1_opposite_5
set_option maxHeartbeats 4000000 in
set_option maxRecDepth 100000 in
theorem c_X1_sideBehind (l : Launch) (g : En) (k : Nat) (hk : k < 4) : PM l yX1_sideBehind cX1_sideBehind 1 (some FieldType.int) { frames := 0, cells := 0, slots := 0, locals := 0 } g [.int (nI k)] (fun H => True) 0 0 (rI (behind k)) := by
  refine PM.of (by decide) (Nat.le_of_ble_eq_true rfl) (fun p e s m below meth c ls X _ hl => ?_)
  have hl : lv_has ls 1 [(0, .int (nI k))] := hl
  have hX : hxt s.heap s.heap := hxt.rf
  refine lv_iload_n X.1 X.2.1 dX1_sideBehind_0 rfl (lv_at hl 0 rfl) ?_
  refine lv_iconst (v := nI 1) X.1 X.2.1 dX1_sideBehind_1 (by decide) ?_
  refine lv_iadd X.1 X.2.1 dX1_sideBehind_2 ?_
  refine w_i (nI_add _ _) ?_
  refine lv_iconst (v := nI 4) X.1 X.2.1 dX1_sideBehind_3 (by decide) ?_
  refine lv_irem X.1 X.2.1 dX1_sideBehind_4 (nI_ne0 (by omega) (by omega)) ?_
  refine w_i (pk_rem (by omega) (by omega) (by omega)) ?_
  exact p_iret X hX (rfl) ⟨by decide, by decide⟩ dX1_sideBehind_5
set_option maxHeartbeats 4000000 in
set_option maxRecDepth 100000 in
theorem c_X1_sideLength (l : Launch) (g : En) (o r : Nat) (A : Nat → Nat) (x1 y1 : Nat) (q : Nat → Rat) (k : Nat) (hk : k < 4) : PM l yX1_sideLength cX1_sideLength 2 (some FieldType.long) { frames := 1, cells := 0, slots := 0, locals := 20 } g [.ref o, .int (nI k)] (fun H => RP g o r A x1 y1 q H) 0 0 (rL (slen x1 y1 k)) := by
  refine PM.of (by decide) (Nat.le_of_ble_eq_true rfl) (fun p e s m below meth c ls X hG hl => ?_)
  obtain ⟨hP, hF⟩ := hG
  have hl : lv_has ls 2 [(0, .ref o), (1, .int (nI k))] := hl
  have hX : hxt s.heap s.heap := hxt.rf
  have hP : PP g [ob o x1 y1 r, ar g r A] s.heap := hP
  refine lv_iload_n X.1 X.2.1 dX1_sideLength_0 rfl (lv_at hl 1 rfl) ?_
  refine p_callS (As := [.int (nI k)]) (rest := []) X (c_X1_goesAlongX l g k hk) ⟨mw_299, mw_300, mw_38, mw_301⟩ sgX1_goesAlongX ⟨rfl, rfl, ⟨by decide, by decide⟩, by decide, by decide⟩ (trivial) hX.1 rfl hl.1 rfl (Nat.le_of_ble_eq_true rfl) dX1_sideLength_1 (fun v H1 hk2 hp => ?_)
  obtain rfl := hp
  have hX := hX.tr hk2
  have hP := PP.ext hP hk2
  have hF := RF.ext hF hk2
  refine W.eq (g2 := F0 m 4 ls [.int (bI (alongX k))]) rfl ?_
  refine q_Beq X (tgt := 14) dX1_sideLength_4 (by decide) (fun hB3 => ?_) (fun hB3 => ?_)
  ·
    refine lv_aload_n X.1 X.2.1 dX1_sideLength_14 rfl (lv_at hl 0 rfl) ?_
    refine p_get (T := TX1) X uX1 (hP.at 0 rfl) rfl 1 (by decide) mw_78 rfl rfl dX1_sideLength_15 ?_
    exact p_lret X hX (by rw [rL, slen, if_neg (by rw [hB3]; decide)]) ⟨by decide, by decide⟩ dX1_sideLength_18
  ·
    refine lv_aload_n X.1 X.2.1 dX1_sideLength_7 rfl (lv_at hl 0 rfl) ?_
    refine p_get (T := TX1) X uX1 (hP.at 0 rfl) rfl 0 (by decide) mw_77 rfl rfl dX1_sideLength_8 ?_
    refine lv_goto (tgt := 18) X.1 X.2.1 dX1_sideLength_11 (by decide) ?_
    exact p_lret X hX (by rw [rL, slen, if_pos hB3]) ⟨by decide, by decide⟩ dX1_sideLength_18
set_option maxHeartbeats 4000000 in
set_option maxRecDepth 100000 in
theorem c_X1_wayToOpposite (l : Launch) (g : En) (o r : Nat) (A : Nat → Nat) (x1 y1 : Nat) (q : Nat → Rat) (k : Nat) (hk : k < 4) : PM l yX1_wayToOpposite cX1_wayToOpposite 2 (some FieldType.long) { frames := 1, cells := 0, slots := 0, locals := 20 } g [.ref o, .int (nI k)] (fun H => RP g o r A x1 y1 q H) 0 0 (rL (wayo x1 y1 k)) := by
  refine PM.of (by decide) (Nat.le_of_ble_eq_true rfl) (fun p e s m below meth c ls X hG hl => ?_)
  obtain ⟨hP, hF⟩ := hG
  have hl : lv_has ls 2 [(0, .ref o), (1, .int (nI k))] := hl
  have hX : hxt s.heap s.heap := hxt.rf
  have hP : PP g [ob o x1 y1 r, ar g r A] s.heap := hP
  refine lv_iload_n X.1 X.2.1 dX1_wayToOpposite_0 rfl (lv_at hl 1 rfl) ?_
  refine p_callS (As := [.int (nI k)]) (rest := []) X (c_X1_goesAlongX l g k hk) ⟨mw_299, mw_300, mw_38, mw_301⟩ sgX1_goesAlongX ⟨rfl, rfl, ⟨by decide, by decide⟩, by decide, by decide⟩ (trivial) hX.1 rfl hl.1 rfl (Nat.le_of_ble_eq_true rfl) dX1_wayToOpposite_1 (fun v H1 hk2 hp => ?_)
  obtain rfl := hp
  have hX := hX.tr hk2
  have hP := PP.ext hP hk2
  have hF := RF.ext hF hk2
  refine W.eq (g2 := F0 m 4 ls [.int (bI (alongX k))]) rfl ?_
  refine q_Beq X (tgt := 14) dX1_wayToOpposite_4 (by decide) (fun hB3 => ?_) (fun hB3 => ?_)
  ·
    refine lv_aload_n X.1 X.2.1 dX1_wayToOpposite_14 rfl (lv_at hl 0 rfl) ?_
    refine p_get (T := TX1) X uX1 (hP.at 0 rfl) rfl 0 (by decide) mw_77 rfl rfl dX1_wayToOpposite_15 ?_
    exact p_lret X hX (by rw [rL, wayo, if_neg (by rw [hB3]; decide)]) ⟨by decide, by decide⟩ dX1_wayToOpposite_18
  ·
    refine lv_aload_n X.1 X.2.1 dX1_wayToOpposite_7 rfl (lv_at hl 0 rfl) ?_
    refine p_get (T := TX1) X uX1 (hP.at 0 rfl) rfl 1 (by decide) mw_78 rfl rfl dX1_wayToOpposite_8 ?_
    refine lv_goto (tgt := 18) X.1 X.2.1 dX1_wayToOpposite_11 (by decide) ?_
    exact p_lret X hX (by rw [rL, wayo, if_pos hB3]) ⟨by decide, by decide⟩ dX1_wayToOpposite_18
set_option maxHeartbeats 4000000 in
set_option maxRecDepth 100000 in
theorem c_X1_isGable (l : Launch) (g : En) (o r : Nat) (A : Nat → Nat) (x1 y1 : Nat) (q : Nat → Rat) (k : Nat) (hk : k < 4) (hq : bd (q k) 20 20) : PM l yX1_isGable cX1_isGable 2 (some FieldType.boolean) { frames := 0, cells := 0, slots := 0, locals := 0 } g [.ref o, .int (nI k)] (fun H => RP g o r A x1 y1 q H) 0 0 (rB (gab q k)) := by
  refine PM.of (by decide) (Nat.le_of_ble_eq_true rfl) (fun p e s m below meth c ls X hG hl => ?_)
  obtain ⟨hP, hF⟩ := hG
  have hl : lv_has ls 2 [(0, .ref o), (1, .int (nI k))] := hl
  have hX : hxt s.heap s.heap := hxt.rf
  have hP : PP g [ob o x1 y1 r, ar g r A] s.heap := hP
  refine lv_aload_n X.1 X.2.1 dX1_isGable_0 rfl (lv_at hl 0 rfl) ?_
  refine p_get (T := TX1) X uX1 (hP.at 0 rfl) rfl 2 (by decide) mw_79 rfl rfl dX1_isGable_1 ?_
  refine lv_iload_n X.1 X.2.1 dX1_isGable_4 rfl (lv_at hl 1 rfl) ?_
  refine p_aald X (hP.at 1 rfl) hk (by decide) (r := A k) rfl dX1_isGable_5 ?_
  have hP := PP.cons (hF k hk) hP
  refine p_get (T := TX0) X uX0 (hP.at 0 rfl) rfl 0 (by decide) mw_69 rfl rfl dX1_isGable_6 ?_
  refine lv_lconst (v := lN 0) X.1 X.2.1 dX1_isGable_9 (by decide) ?_
  refine q_Nne X (by have := hq.2.1; omega) (by decide) (tgt := 18) dX1_isGable_10 dX1_isGable_11 (by decide) (fun hB1 => ?_) (fun hB1 => ?_)
  ·
    refine lv_iconst (v := nI 0) X.1 X.2.1 dX1_isGable_18 (by decide) ?_
    refine w_i (v' := bI false) (by decide) ?_
    exact p_zret (v := false) X hX (by rw [rB, gab, decide_eq_false (fun h => hB1 ((nu_eq0 hq.1).mpr h))]; rfl) ⟨by decide, by decide⟩ dX1_isGable_19
  ·
    refine lv_iconst (v := nI 1) X.1 X.2.1 dX1_isGable_14 (by decide) ?_
    refine lv_goto (tgt := 19) X.1 X.2.1 dX1_isGable_15 (by decide) ?_
    refine w_i (v' := bI true) (by decide) ?_
    exact p_zret (v := true) X hX (by rw [rB, gab, decide_eq_true ((nu_eq0 hq.1).mp hB1)]; rfl) ⟨by decide, by decide⟩ dX1_isGable_19
set_option maxHeartbeats 4000000 in
set_option maxRecDepth 100000 in
theorem c_X1_distanceFrom (l : Launch) (g : En) (o r : Nat) (A : Nat → Nat) (x1 y1 : Nat) (q : Nat → Rat) (k x y : Nat) (hk : k < 4) (hx : x ≤ x1) (hy : y ≤ y1) : PM l yX1_distanceFrom cX1_distanceFrom 6 (some FieldType.long) { frames := 0, cells := 0, slots := 0, locals := 0 } g [.ref o, .int (nI k), .long (lN x), .long (lN y)] (fun H => RP g o r A x1 y1 q H) 0 0 (rL (dst x1 y1 k x y)) := by
  refine PM.of (by decide) (Nat.le_of_ble_eq_true rfl) (fun p e s m below meth c ls X hG hl => ?_)
  obtain ⟨hP, hF⟩ := hG
  have hl : lv_has ls 6 [(0, .ref o), (1, .int (nI k)), (2, .long (lN x)), (4, .long (lN y))] := hl
  have hX : hxt s.heap s.heap := hxt.rf
  have hP : PP g [ob o x1 y1 r, ar g r A] s.heap := hP
  refine lv_iload_n X.1 X.2.1 dX1_distanceFrom_0 rfl (lv_at hl 1 rfl) ?_
  rcases (show k = 0 ∨ k = 1 ∨ k = 2 ∨ k = 3 by omega) with rfl | rfl | rfl | rfl
  ·
    refine lv_tableIn (tgt := 28) X.1 X.2.1 dX1_distanceFrom_1 (by decide) (by decide) rfl (by decide) ?_
    refine lv_lload X.1 X.2.1 dX1_distanceFrom_28 (lv_at hl 3 rfl) ?_
    exact p_lret X hX (rfl) ⟨by decide, by decide⟩ dX1_distanceFrom_30
  ·
    refine lv_tableIn (tgt := 31) X.1 X.2.1 dX1_distanceFrom_1 (by decide) (by decide) rfl (by decide) ?_
    refine lv_aload_n X.1 X.2.1 dX1_distanceFrom_31 rfl (lv_at hl 0 rfl) ?_
    refine p_get (T := TX1) X uX1 (hP.at 0 rfl) rfl 0 (by decide) mw_77 rfl rfl dX1_distanceFrom_32 ?_
    refine lv_lload_n X.1 X.2.1 dX1_distanceFrom_35 rfl (lv_at hl 2 rfl) ?_
    refine lv_lsub X.1 X.2.1 dX1_distanceFrom_36 ?_
    refine w_l (lN_sub hx) ?_
    exact p_lret X hX (rfl) ⟨by decide, by decide⟩ dX1_distanceFrom_37
  ·
    refine lv_tableIn (tgt := 38) X.1 X.2.1 dX1_distanceFrom_1 (by decide) (by decide) rfl (by decide) ?_
    refine lv_aload_n X.1 X.2.1 dX1_distanceFrom_38 rfl (lv_at hl 0 rfl) ?_
    refine p_get (T := TX1) X uX1 (hP.at 0 rfl) rfl 1 (by decide) mw_78 rfl rfl dX1_distanceFrom_39 ?_
    refine lv_lload X.1 X.2.1 dX1_distanceFrom_42 (lv_at hl 3 rfl) ?_
    refine lv_lsub X.1 X.2.1 dX1_distanceFrom_44 ?_
    refine w_l (lN_sub hy) ?_
    exact p_lret X hX (rfl) ⟨by decide, by decide⟩ dX1_distanceFrom_45
  ·
    refine lv_tableOut (tgt := 46) X.1 X.2.1 dX1_distanceFrom_1 (by decide) (by decide) ?_
    refine lv_lload_n X.1 X.2.1 dX1_distanceFrom_46 rfl (lv_at hl 2 rfl) ?_
    exact p_lret X hX (rfl) ⟨by decide, by decide⟩ dX1_distanceFrom_47
theorem hgt_mk {X Y x y k : Nat} {q : Nat → Rat} (h : 0 < q k) : hgt X Y q x y k = (((q k).den * dst X Y k x y : Nat) : Rat) / ((nu (q k) : Nat) : Rat) := by
  have h1 := nu_mul (Rat.le_of_lt h)
  have h3 := dn_ne (q k)
  have h4 := Rat.ne_of_gt h
  rw [hgt, Rat.natCast_mul, h1]
  grind
set_option maxHeartbeats 4000000 in
set_option maxRecDepth 100000 in
theorem c_X1_planeHeight (l : Launch) (g : En) (o r : Nat) (A : Nat → Nat) (x1 y1 : Nat) (q : Nat → Rat) (k x y : Nat) (hO : OK x1 y1 q) (hk : k < 4) (hx : x ≤ x1) (hy : y ≤ y1) (hg : gab q k = false) : PM l yX1_planeHeight cX1_planeHeight 6 (some (FieldType.object "RafterPlaces$Fraction")) { frames := 2, cells := 1, slots := 2, locals := 58 } g [.ref o, .int (nI k), .long (lN x), .long (lN y)] (fun H => RP g o r A x1 y1 q H) 1 2 (rF g (hgt x1 y1 q x y k)) := by
  refine PM.of (by decide) (Nat.le_of_ble_eq_true rfl) (fun p e s m below meth c ls X hG hl => ?_)
  obtain ⟨hP, hF⟩ := hG
  have hq := hO.2.2.1 k hk
  have hpq := gab_pos hq hg
  have hd := dst_le hO hx hy k
  have hl : lv_has ls 6 [(0, .ref o), (1, .int (nI k)), (2, .long (lN x)), (4, .long (lN y))] := hl
  have hX : hxt s.heap s.heap := hxt.rf
  have hP : PP g [ob o x1 y1 r, ar g r A] s.heap := hP
  refine p_new (C := RX0) (T := TX0) (N := 2) (ci := 0) X tyX0 tyX0_ok uX0 ⟨mw_58, mw_60, mw_39⟩ rfl [.long 0, .long 0] (fun j hj => by rcases (show j = 0 ∨ j = 1 by omega) with rfl | rfl <;> rfl) ⟨by decide, by decide⟩ dX1_planeHeight_0 (fun q1 H2 eq1 zq1 kq1 hq1 => ?_)
  have hX0 := hX
  have hX := hX.tr kq1
  have hP0 := hP
  have hP := PP.ext hP kq1
  have hF0 := hF
  have hF := RF.ext hF kq1
  refine lv_dup X.1 X.2.1 dX1_planeHeight_3 rfl ?_
  refine lv_aload_n X.1 X.2.1 dX1_planeHeight_4 rfl (lv_at hl 0 rfl) ?_
  refine p_get (T := TX1) X uX1 (hP.at 0 rfl) rfl 2 (by decide) mw_79 rfl rfl dX1_planeHeight_5 ?_
  refine lv_iload_n X.1 X.2.1 dX1_planeHeight_8 rfl (lv_at hl 1 rfl) ?_
  refine p_aald X (hP.at 1 rfl) hk (by decide) (r := A k) rfl dX1_planeHeight_9 ?_
  have hP := PP.cons (hF k hk) hP
  refine p_get (T := TX0) X uX0 (hP.at 0 rfl) rfl 1 (by decide) mw_71 rfl rfl dX1_planeHeight_10 ?_
  refine lv_aload_n X.1 X.2.1 dX1_planeHeight_13 rfl (lv_at hl 0 rfl) ?_
  refine lv_iload_n X.1 X.2.1 dX1_planeHeight_14 rfl (lv_at hl 1 rfl) ?_
  refine lv_lload_n X.1 X.2.1 dX1_planeHeight_15 rfl (lv_at hl 2 rfl) ?_
  refine lv_lload X.1 X.2.1 dX1_planeHeight_16 (lv_at hl 3 rfl) ?_
  refine p_callV (C := RX1) (b := o) (As := [.int (nI k), .long (lN x), .long (lN y)]) (rest := [.long (lN ((q k).den)), .ref q1, .ref q1]) X (c_X1_distanceFrom l g o r A x1 y1 q k x y hk hx hy) ⟨mw_263, mw_265, mw_8, mw_38, mw_266⟩ sgX1_distanceFrom ⟨rfl, rfl, ⟨by decide, by decide⟩, by decide, by decide⟩ (hP.at 1 rfl) rfl rfl (RP.of hP [1, 2] rfl hF) hX.1 rfl hl.1 rfl (Nat.le_of_ble_eq_true rfl) dX1_planeHeight_18 (fun v H3 hk4 hp => ?_)
  obtain rfl := hp
  have hX := hX.tr hk4
  have hP := PP.ext hP hk4
  have hF := RF.ext hF hk4
  have kq1 := kq1.tr hk4
  have hq1 := (PP.ext (PP.one hq1) hk4) 0 _ rfl
  have zq1 : q1 < H3.size := va_at.lt hq1
  refine W.eq (g2 := F0 m 21 ls [.long (lN (dst x1 y1 k x y)), .long (lN ((q k).den)), .ref q1, .ref q1]) rfl ?_
  refine lv_lmul X.1 X.2.1 dX1_planeHeight_21 ?_
  refine w_l (lN_mul _ _) ?_
  refine lv_aload_n X.1 X.2.1 dX1_planeHeight_22 rfl (lv_at hl 0 rfl) ?_
  refine p_get (T := TX1) X uX1 (hP.at 1 rfl) rfl 2 (by decide) mw_79 rfl rfl dX1_planeHeight_23 ?_
  refine lv_iload_n X.1 X.2.1 dX1_planeHeight_26 rfl (lv_at hl 1 rfl) ?_
  refine p_aald X (hP.at 2 rfl) hk (by decide) (r := A k) rfl dX1_planeHeight_27 ?_
  refine p_get (T := TX0) X uX0 (hP.at 0 rfl) rfl 0 (by decide) mw_69 rfl rfl dX1_planeHeight_28 ?_
  refine p_callI (b := q1) (As := [.long (lN (((q k).den) * (dst x1 y1 k x y))), .long (lN (nu (q k)))]) (rest := [.ref q1]) X (c_X0_init l g q1 ((q k).den * dst x1 y1 k x y) (nu (q k)) (nu_pos hpq) (mlt hq.2.2 hd (by decide)) (by have := hq.2.1; omega)) ⟨mw_61, mw_62, mw_39, mw_63⟩ rfl sgX0_init ⟨rfl, rfl, ⟨by decide, by decide⟩, by decide, by decide⟩ (PP.one hq1) hX.1 (by rw [eq1]; exact hX0.1) rfl hl.1 rfl (Nat.le_of_ble_eq_true rfl) dX1_planeHeight_31 (fun H5 hkq1 hp => ?_)
  have keq1 := kq1.init (Nat.le_of_eq eq1.symm) hkq1
  have hX := hX0.tr keq1
  rw [← hgt_mk hpq] at hp
  have hP := PP.cons hp (PP.ext hP0 keq1)
  have hF := RF.ext hF0 keq1
  refine W.eq (g2 := F0 m 34 ls [.ref q1]) rfl ?_
  exact p_aret X hX (⟨_, rfl, hP.at 0 rfl⟩) ⟨by decide, by decide⟩ dX1_planeHeight_34
set_option maxHeartbeats 4000000 in
set_option maxRecDepth 100000 in
theorem c_X1_isLower (l : Launch) (g : En) (o r : Nat) (A : Nat → Nat) (x1 y1 : Nat) (q : Nat → Rat) (k j x y : Nat) (hO : OK x1 y1 q) (hk : k < 4) (hj : j < 4) (hx : x ≤ x1) (hy : y ≤ y1) (hg : gab q k = false) (hgj : gab q j = false) : PM l yX1_isLower cX1_isLower 7 (some FieldType.boolean) { frames := 3, cells := 2, slots := 4, locals := 83 } g [.ref o, .int (nI k), .int (nI j), .long (lN x), .long (lN y)] (fun H => RP g o r A x1 y1 q H) 2 4 (rB (decide (hgt x1 y1 q x y k < hgt x1 y1 q x y j))) := by
  refine PM.of (by decide) (Nat.le_of_ble_eq_true rfl) (fun p e s m below meth c ls X hG hl => ?_)
  obtain ⟨hP, hF⟩ := hG
  have hl : lv_has ls 7 [(0, .ref o), (1, .int (nI k)), (2, .int (nI j)), (3, .long (lN x)), (5, .long (lN y))] := hl
  have hX : hxt s.heap s.heap := hxt.rf
  have hP : PP g [ob o x1 y1 r, ar g r A] s.heap := hP
  refine lv_aload_n X.1 X.2.1 dX1_isLower_0 rfl (lv_at hl 0 rfl) ?_
  refine lv_iload_n X.1 X.2.1 dX1_isLower_1 rfl (lv_at hl 1 rfl) ?_
  refine lv_lload_n X.1 X.2.1 dX1_isLower_2 rfl (lv_at hl 3 rfl) ?_
  refine lv_lload X.1 X.2.1 dX1_isLower_3 (lv_at hl 4 rfl) ?_
  refine p_callV (C := RX1) (b := o) (As := [.int (nI k), .long (lN x), .long (lN y)]) (rest := []) X (c_X1_planeHeight l g o r A x1 y1 q k x y hO hk hx hy hg) ⟨mw_259, mw_261, mw_7, mw_38, mw_262⟩ sgX1_planeHeight ⟨rfl, rfl, ⟨by decide, by decide⟩, by decide, by decide⟩ (hP.at 0 rfl) rfl rfl (RP.of hP [0, 1] rfl hF) hX.1 rfl hl.1 rfl (Nat.le_of_ble_eq_true rfl) dX1_isLower_5 (fun v H1 hk2 hp => ?_)
  obtain ⟨r3, rfl, hr3⟩ := hp
  have hX := hX.tr hk2
  have hP := PP.ext hP hk2
  have hF := RF.ext hF hk2
  have hP := PP.cons hr3 hP
  refine W.eq (g2 := F0 m 8 ls [.ref r3]) rfl ?_
  refine lv_aload_n X.1 X.2.1 dX1_isLower_8 rfl (lv_at hl 0 rfl) ?_
  refine lv_iload_n X.1 X.2.1 dX1_isLower_9 rfl (lv_at hl 2 rfl) ?_
  refine lv_lload_n X.1 X.2.1 dX1_isLower_10 rfl (lv_at hl 3 rfl) ?_
  refine lv_lload X.1 X.2.1 dX1_isLower_11 (lv_at hl 4 rfl) ?_
  refine p_callV (C := RX1) (b := o) (As := [.int (nI j), .long (lN x), .long (lN y)]) (rest := [.ref r3]) X (c_X1_planeHeight l g o r A x1 y1 q j x y hO hj hx hy hgj) ⟨mw_259, mw_261, mw_7, mw_38, mw_262⟩ sgX1_planeHeight ⟨rfl, rfl, ⟨by decide, by decide⟩, by decide, by decide⟩ (hP.at 1 rfl) rfl rfl (RP.of hP [1, 2] rfl hF) hX.1 rfl hl.1 rfl (Nat.le_of_ble_eq_true rfl) dX1_isLower_13 (fun v H4 hk5 hp => ?_)
  obtain ⟨r6, rfl, hr6⟩ := hp
  have hX := hX.tr hk5
  have hP := PP.ext hP hk5
  have hF := RF.ext hF hk5
  have hP := PP.cons hr6 hP
  refine W.eq (g2 := F0 m 16 ls [.ref r6, .ref r3]) rfl ?_
  refine p_callV (C := RX0) (b := r3) (As := [.ref r6]) (rest := []) X (b_less l g _ _ (bd_hgt hO hx hy hk hg) (bd_hgt hO hx hy hj hgj) (by decide) (by decide)) ⟨mw_267, mw_268, mw_269, mw_39, mw_270⟩ sgX0_isLess ⟨rfl, rfl, ⟨by decide, by decide⟩, by decide, by decide⟩ (hP.at 1 rfl) rfl rfl (hP.sub [1, 0] rfl) hX.1 rfl hl.1 rfl (Nat.le_of_ble_eq_true rfl) dX1_isLower_16 (fun v H7 hk8 hp => ?_)
  obtain rfl := hp
  have hX := hX.tr hk8
  have hP := PP.ext hP hk8
  have hF := RF.ext hF hk8
  refine W.eq (g2 := F0 m 19 ls [.int (bI (decide (hgt x1 y1 q x y k < hgt x1 y1 q x y j)))]) rfl ?_
  exact p_zret (v := decide (hgt x1 y1 q x y k < hgt x1 y1 q x y j)) X hX (rfl) ⟨by decide, by decide⟩ dX1_isLower_19
end
section
/-! where a rafter ends; the peak -/
def enp (X Y : Nat) (q : Nat → Rat) (side t : Nat) : Nat → Nat
  | 0 => opp side
  | n + 1 => if n ≠ side ∧ n ≠ opp side ∧ gab q n = false ∧ (lim X Y q side t n < lim X Y q side t (enp X Y q side t n) ∨ (lim X Y q side t n = lim X Y q side t (enp X Y q side t n) ∧ n < enp X Y q side t n)) then n else enp X Y q side t n
theorem opp_lt (k : Nat) : opp k < 4 := Nat.mod_lt _ (by decide)
theorem behind_lt (k : Nat) : behind k < 4 := Nat.mod_lt _ (by decide)
theorem enp_ok (X Y : Nat) (q : Nat → Rat) (side t : Nat) : ∀ n, n ≤ 4 → enp X Y q side t n < 4 ∧ (enp X Y q side t n = opp side ∨ gab q (enp X Y q side t n) = false) := by
  intro n
  induction n with
  | zero => intro _; exact ⟨opp_lt side, Or.inl rfl⟩
  | succ n ih =>
    intro h
    simp only [enp]
    split
    · rename_i h1; exact ⟨by omega, Or.inr h1.2.2.1⟩
    · exact ih (by omega)
theorem enp_no {X Y : Nat} {q : Nat → Rat} {side t n : Nat} (h : n = side ∨ n = opp side ∨ gab q n = true ∨ (¬ lim X Y q side t n < lim X Y q side t (enp X Y q side t n) ∧ (lim X Y q side t n = lim X Y q side t (enp X Y q side t n) → enp X Y q side t n ≤ n))) : enp X Y q side t (n + 1) = enp X Y q side t n := by
  rw [enp, if_neg]
  rintro ⟨h1, h2, h3, h4⟩
  rcases h with h | h | h | ⟨h5, h6⟩
  · exact h1 h
  · exact h2 h
  · rw [h3] at h; cases h
  · rcases h4 with h4 | ⟨h4, h7⟩
    · exact h5 h4
    · have := h6 h4; omega
theorem enp_yes {X Y : Nat} {q : Nat → Rat} {side t n : Nat} (h1 : n ≠ side) (h2 : n ≠ opp side) (h3 : gab q n = false) (h4 : lim X Y q side t n < lim X Y q side t (enp X Y q side t n) ∨ (lim X Y q side t n = lim X Y q side t (enp X Y q side t n) ∧ n < enp X Y q side t n)) : enp X Y q side t (n + 1) = n := by
  rw [enp, if_pos ⟨h1, h2, h3, h4⟩]
theorem lwp_t {X Y : Nat} {q : Nat → Rat} {x y n : Nat} (h1 : gab q (n + 1) = false) (h2 : gab q (lwp X Y q x y n) = true ∨ hgt X Y q x y (n + 1) < hgt X Y q x y (lwp X Y q x y n)) : lwp X Y q x y (n + 1) = n + 1 := if_pos ⟨h1, h2⟩
theorem lwp_f {X Y : Nat} {q : Nat → Rat} {x y n : Nat} (h : gab q (n + 1) = true ∨ (gab q (lwp X Y q x y n) = false ∧ ¬ hgt X Y q x y (n + 1) < hgt X Y q x y (lwp X Y q x y n))) : lwp X Y q x y (n + 1) = lwp X Y q x y n := if_neg (by
  rintro ⟨h1, h2⟩
  rcases h with h | ⟨h3, h4⟩
  · rw [h1] at h; cases h
  · rcases h2 with h2 | h2
    · rw [h3] at h2; cases h2
    · exact h4 h2)
def pk (X Y : Nat) (q : Nat → Rat) : Rat :=
  if q 3 + q 1 = 0 then (q 0 + q 2)⁻¹ * (Y : Rat) else if q 0 + q 2 = 0 then (q 3 + q 1)⁻¹ * (X : Rat) else if (q 3 + q 1)⁻¹ * (X : Rat) < (q 0 + q 2)⁻¹ * (Y : Rat) then (q 3 + q 1)⁻¹ * (X : Rat) else (q 0 + q 2)⁻¹ * (Y : Rat)
theorem sum0 {x y : Rat} (hx : 0 ≤ x) (hy : 0 ≤ y) (h : x + y = 0) : x = 0 ∧ y = 0 := by
  constructor <;> grind
theorem OK.pos {X Y : Nat} {q : Nat → Rat} (h : OK X Y q) (h0 : q 3 + q 1 = 0) : 0 < q 0 + q 2 := by
  have b0 := (h.2.2.1 0 (by decide)).1
  have b1 := (h.2.2.1 1 (by decide)).1
  have b2 := (h.2.2.1 2 (by decide)).1
  have b3 := (h.2.2.1 3 (by decide)).1
  obtain ⟨e3, e1⟩ := sum0 b3 b1 h0
  obtain ⟨k, hk, hne⟩ := h.2.2.2
  rcases (show k = 0 ∨ k = 1 ∨ k = 2 ∨ k = 3 by omega) with rfl | rfl | rfl | rfl
  · have := pos_of b0 hne; grind
  · exact absurd e1 hne
  · have := pos_of b2 hne; grind
  · exact absurd e3 hne
theorem bd_s31 {X Y : Nat} {q : Nat → Rat} (h : OK X Y q) : bd (q 3 + q 1) 800 400 := bd_add (h.2.2.1 3 (by decide)) (h.2.2.1 1 (by decide))
theorem bd_s02 {X Y : Nat} {q : Nat → Rat} (h : OK X Y q) : bd (q 0 + q 2) 800 400 := bd_add (h.2.2.1 0 (by decide)) (h.2.2.1 2 (by decide))
theorem bd_px {X Y : Nat} {q : Nat → Rat} (h : OK X Y q) (h0 : 0 < q 3 + q 1) : bd ((q 3 + q 1)⁻¹ * (X : Rat)) 800000 800 := (bd_muln (w := X) (bd_inv (bd_s31 h) h0)).mono (by have := h.1.2; omega) (Nat.le_refl _)
theorem bd_py {X Y : Nat} {q : Nat → Rat} (h : OK X Y q) (h0 : 0 < q 0 + q 2) : bd ((q 0 + q 2)⁻¹ * (Y : Rat)) 800000 800 := (bd_muln (w := Y) (bd_inv (bd_s02 h) h0)).mono (by have := h.2.1.2; omega) (Nat.le_refl _)
theorem bd_pk {X Y : Nat} {q : Nat → Rat} (h : OK X Y q) : bd (pk X Y q) 800000 800 := by
  unfold pk
  split
  · rename_i h0; exact bd_py h (h.pos h0)
  · rename_i h1
    have p1 := pos_of (bd_s31 h).1 h1
    split
    · exact bd_px h p1
    · rename_i h2
      have p2 := pos_of (bd_s02 h).1 h2
      split
      · exact bd_px h p1
      · exact bd_py h p2
theorem pk_x {X Y : Nat} {q : Nat → Rat} (h : OK X Y q) : pk X Y q * (q 3 + q 1) ≤ (X : Rat) := by
  have hX : (0 : Rat) ≤ (X : Rat) := Rat.natCast_nonneg
  unfold pk
  split
  · rename_i h0; rw [h0]; grind
  · rename_i h1
    have p1 := pos_of (bd_s31 h).1 h1
    have e : (q 3 + q 1)⁻¹ * (X : Rat) * (q 3 + q 1) = (X : Rat) := by grind
    split
    · rw [e]; exact Rat.le_refl
    · split
      · rw [e]; exact Rat.le_refl
      · rename_i h3
        have := Rat.mul_le_mul_of_nonneg_right (Rat.not_lt.mp h3) (Rat.le_of_lt p1)
        rw [e] at this
        exact this
theorem pk_y {X Y : Nat} {q : Nat → Rat} (h : OK X Y q) : pk X Y q * (q 0 + q 2) ≤ (Y : Rat) := by
  have hY : (0 : Rat) ≤ (Y : Rat) := Rat.natCast_nonneg
  have e : ∀ h : 0 < q 0 + q 2, (q 0 + q 2)⁻¹ * (Y : Rat) * (q 0 + q 2) = (Y : Rat) := fun h => by
    have := Rat.ne_of_gt h
    grind
  unfold pk
  split
  · rename_i h0; rw [e (h.pos h0)]; exact Rat.le_refl
  · rename_i h1
    split
    · rename_i h2; rw [h2]; grind
    · rename_i h2
      have p2 := pos_of (bd_s02 h).1 h2
      split
      · rename_i h3
        have := Rat.mul_le_mul_of_nonneg_right (Rat.le_of_lt h3) (Rat.le_of_lt p2)
        rw [e p2] at this
        exact this
      · rw [e p2]; exact Rat.le_refl
theorem mono4 {P a b w : Rat} (hP : 0 ≤ P) (ha : 0 ≤ a) (hb : 0 ≤ b) (h : P * (a + b) ≤ w) : P * a ≤ w ∧ P * b ≤ w := by
  have h1 := Rat.mul_nonneg hP ha
  have h2 := Rat.mul_nonneg hP hb
  rw [Rat.mul_add] at h
  constructor <;> grind
theorem pk_side {X Y : Nat} {q : Nat → Rat} (h : OK X Y q) {k : Nat} (hk : k < 4) : pk X Y q * q k ≤ ((wayo X Y k : Nat) : Rat) := by
  have b := fun k hk => (h.2.2.1 k hk).1
  have h1 := mono4 (bd_pk h).1 (b 3 (by decide)) (b 1 (by decide)) (pk_x h)
  have h2 := mono4 (bd_pk h).1 (b 0 (by decide)) (b 2 (by decide)) (pk_y h)
  rcases (show k = 0 ∨ k = 1 ∨ k = 2 ∨ k = 3 by omega) with rfl | rfl | rfl | rfl
  · exact h2.1
  · exact h1.2
  · exact h2.2
  · exact h1.1
theorem bd_in {X Y : Nat} {q : Nat → Rat} (h : OK X Y q) {k : Nat} (hk : k < 4) : bd (pk X Y q * q k) 16000000 16000 := bd_mul (bd_pk h) (h.2.2.1 k hk)
/-- both sides beside a side -/
def bes (q : Nat → Rat) (k : Nat) : Rat := q (behind k) + q (opp (behind k))
theorem pk_bes {X Y : Nat} {q : Nat → Rat} (h : OK X Y q) {k : Nat} (hk : k < 4) : pk X Y q * bes q k ≤ ((slen X Y k : Nat) : Rat) := by
  have h1 := pk_x h
  have h2 := pk_y h
  have h1' : pk X Y q * (q 1 + q 3) ≤ (X : Rat) := by rw [Rat.add_comm]; exact h1
  have h2' : pk X Y q * (q 2 + q 0) ≤ (Y : Rat) := by rw [Rat.add_comm]; exact h2
  rcases (show k = 0 ∨ k = 1 ∨ k = 2 ∨ k = 3 by omega) with rfl | rfl | rfl | rfl
  · exact h1'
  · exact h2'
  · exact h1
  · exact h2
def rdg (X Y : Nat) (q : Nat → Rat) (w : Nat) : Rat := if w = 0 then pk X Y q * q 3 else if w = 1 then (X : Rat) - pk X Y q * q 1 else if w = 2 then pk X Y q * q 0 else (Y : Rat) - pk X Y q * q 2
def are (X Y : Nat) (q : Nat → Rat) (k : Nat) : Rat := pk X Y q * q k * (((2 * slen X Y k : Nat) : Rat) - pk X Y q * bes q k)
/-- the square of the way up the slope -/
def sqr (q : Nat → Rat) (k : Nat) (z : Rat) : Rat := ((q k)⁻¹ * (q k)⁻¹ + 1) * z * z
theorem bd_sqr {q : Nat → Rat} {k : Nat} {z : Rat} (hq : bd (q k) 20 20) (h0 : 0 < q k) (hz : bd z 16000000 16000) : bd (sqr q k z) 204800000000000000 102400000000 := by
  have h1 := bd_inv hq h0
  exact bd_mul (bd_mul (bd_add (bd_mul h1 h1) (bd_nat 1)) hz) hz
def rt : Nat → Nat → Nat → Nat
  | 0, r, _ => r
  | k + 1, r, n => if (r + 2 ^ k) * (r + 2 ^ k) ≤ n then rt k (r + 2 ^ k) n else rt k r n
theorem rt_ok : ∀ (k r n : Nat), r * r ≤ n → n < (r + 2 ^ k) * (r + 2 ^ k) → rt k r n * rt k r n ≤ n ∧ n < (rt k r n + 1) * (rt k r n + 1) := by
  intro k
  induction k with
  | zero => intro r n h1 h2; simpa [rt] using ⟨h1, h2⟩
  | succ k ih =>
    intro r n h1 h2
    rw [rt]
    split
    · rename_i h
      exact ih _ _ h (by rw [Nat.add_assoc, ← Nat.two_mul, ← Nat.pow_succ']; exact h2)
    · rename_i h
      exact ih _ _ h1 (Nat.lt_of_not_le h)
def isq (n : Nat) : Nat := rt 31 0 n
theorem isq_ok {n : Nat} (h : n < 2 ^ 62) : isq n * isq n ≤ n ∧ n < (isq n + 1) * (isq n + 1) := rt_ok 31 0 n (Nat.zero_le _) (Nat.lt_of_lt_of_le h (by decide))
def tng (X Y : Nat) (q : Nat → Rat) (side t cut : Nat) : Rat := if cut = 0 then (q side)⁻¹ else if cut = 1 then q side else if enp X Y q side t 4 = opp side then 0 else q (enp X Y q side t 4) / q side
theorem wb_tb (n : Nat) : (lN n).toBitVec = BitVec.ofNat 64 n := rfl
theorem wb_inj {a b : Int64} (h : a.toBitVec = b.toBitVec) : a = b := Int64.toBitVec_inj.mp h
theorem wb_c : ∀ k, k < 64 → ((nI k).toInt64 &&& 63) = lN k := by decide +kernel
theorem wb_sm : ∀ k, k < 64 → (BitVec.ofNat 64 k).smod 64 = BitVec.ofNat 64 k := by decide +kernel
theorem wb_shl (n : Nat) {k : Nat} (hk : k < 64) : lN n <<< ((nI k).toInt64 &&& 63) = lN (n * 2 ^ k) := by
  rw [wb_c k hk]
  apply wb_inj
  rw [Int64.toBitVec_shiftLeft, wb_tb, wb_tb, wb_tb, wb_sm k hk]
  apply BitVec.eq_of_toNat_eq
  rw [BitVec.shiftLeft_eq', BitVec.toNat_shiftLeft, BitVec.toNat_ofNat, BitVec.toNat_ofNat, BitVec.toNat_ofNat, Nat.mod_eq_of_lt (show k < 2 ^ 64 by omega), Nat.shiftLeft_eq, Nat.mul_mod, Nat.mod_mod, ← Nat.mul_mod]
end
section
set_option maxHeartbeats 4000000 in
set_option maxRecDepth 100000 in
theorem c_X1_lowestSide (l : Launch) (g : En) (o r : Nat) (A : Nat → Nat) (x1 y1 : Nat) (q : Nat → Rat) (x y : Nat) (hO : OK x1 y1 q) (hx : x ≤ x1) (hy : y ≤ y1) : PM l yX1_lowestSide cX1_lowestSide 7 (some FieldType.int) { frames := 4, cells := 6, slots := 12, locals := 109 } g [.ref o, .long (lN x), .long (lN y)] (fun H => RP g o r A x1 y1 q H) 6 12 (rI (lwp x1 y1 q x y 3)) := by
  refine PM.of (by decide) (Nat.le_of_ble_eq_true rfl) (fun p e s m below meth c ls X hG hl => ?_)
  obtain ⟨hP, hF⟩ := hG
  have hq := hO.2.2.1
  have hc4 : lwp x1 y1 q x y 3 < 4 := Nat.lt_of_le_of_lt (lwp_le _ _ _ _ _ _) (by decide)
  have L4 : ∀ (H : Heap) (ls : Array Slot), hxt s.heap H → PP g [ob o x1 y1 r, ar g r A] H → RF g A q H → lv_has ls 7 [(6, .int (nI 4)), (5, .int (nI (lwp x1 y1 q x y 3))), (0, .ref o), (1, .long (lN x)), (3, .long (lN y))] → W p l e { frames := 4, cells := 6, slots := 12, locals := 109 } s m ([.ref o, .long (lN x), .long (lN y)] : List Value).toArray below meth c H [] 6 12 (MQ below (pQ (rI (lwp x1 y1 q x y 3))) ([.ref o, .long (lN x), .long (lN y)] : List Value).toArray s 6 12 (fun q => s.heap.size ≤ q)) (F0 m 6 ls []) := by
    intro H ls hX hP hF hl
    refine lv_iload X.1 X.2.1 dX1_lowestSide_6 (lv_at hl 0 rfl) ?_
    refine lv_iconst (v := nI 4) X.1 X.2.1 dX1_lowestSide_8 (by decide) ?_
    refine q_Ige X (by omega) (by omega) (tgt := 53) dX1_lowestSide_9 (by decide) (fun hB101 => ?_) (fun hB101 => ?_)
    ·
      refine lv_iload X.1 X.2.1 dX1_lowestSide_53 (lv_at hl 1 rfl) ?_
      exact p_iret X hX (rfl) ⟨by decide, by decide⟩ dX1_lowestSide_55
    ·
      exact absurd hB101 (by decide)
  have hc3 : lwp x1 y1 q x y 2 < 4 := Nat.lt_of_le_of_lt (lwp_le _ _ _ _ _ _) (by decide)
  have L3 : ∀ (H : Heap) (ls : Array Slot), hxt s.heap H → PP g [ob o x1 y1 r, ar g r A] H → RF g A q H → lv_has ls 7 [(6, .int (nI 3)), (5, .int (nI (lwp x1 y1 q x y 2))), (0, .ref o), (1, .long (lN x)), (3, .long (lN y))] → W p l e { frames := 4, cells := 6, slots := 12, locals := 109 } s m ([.ref o, .long (lN x), .long (lN y)] : List Value).toArray below meth c H [] 4 8 (MQ below (pQ (rI (lwp x1 y1 q x y 3))) ([.ref o, .long (lN x), .long (lN y)] : List Value).toArray s 6 12 (fun q => s.heap.size ≤ q)) (F0 m 6 ls []) := by
    intro H ls hX hP hF hl
    refine lv_iload X.1 X.2.1 dX1_lowestSide_6 (lv_at hl 0 rfl) ?_
    refine lv_iconst (v := nI 4) X.1 X.2.1 dX1_lowestSide_8 (by decide) ?_
    refine q_Ige X (by omega) (by omega) (tgt := 53) dX1_lowestSide_9 (by decide) (fun hB101 => ?_) (fun hB101 => ?_)
    ·
      exact absurd hB101 (by decide)
    ·
      refine lv_aload_n X.1 X.2.1 dX1_lowestSide_12 rfl (lv_at hl 2 rfl) ?_
      refine lv_iload X.1 X.2.1 dX1_lowestSide_13 (lv_at hl 0 rfl) ?_
      refine p_callV (C := RX1) (b := o) (As := [.int (nI 3)]) (rest := []) X (c_X1_isGable l g o r A x1 y1 q 3 (by decide) (hq 3 (by decide))) ⟨mw_220, mw_222, mw_3, mw_38, mw_223⟩ sgX1_isGable ⟨rfl, rfl, ⟨by decide, by decide⟩, by decide, by decide⟩ (hP.at 0 rfl) rfl rfl (RP.of hP [0, 1] rfl hF) hX.1 rfl hl.1 rfl (Nat.le_of_ble_eq_true rfl) dX1_lowestSide_15 (fun v H102 hk103 hp => ?_)
      obtain rfl := hp
      have hX := hX.tr hk103
      have hP := PP.ext hP hk103
      have hF := RF.ext hF hk103
      refine W.eq (g2 := F0 m 18 ls [.int (bI (gab q 3))]) rfl ?_
      refine q_Bne X (tgt := 47) dX1_lowestSide_18 (by decide) (fun hB104 => ?_) (fun hB104 => ?_)
      ·
        refine lv_iinc (v := nI (3 + 1)) (lv' := [(6, .int (nI (3 + 1))), (5, .int (nI (lwp x1 y1 q x y 2))), (0, .ref o), (1, .long (lN x)), (3, .long (lN y))]) X.1 X.2.1 dX1_lowestSide_47 hl (k := 0) rfl (nI_1 _) (by decide) rfl (fun ls hl => ?_)
        refine lv_goto (tgt := 6) X.1 X.2.1 dX1_lowestSide_50 (by decide) ?_
        refine W.widen (k := 6) (n := 12) (by decide) (by decide) ?_
        have e9 : lwp x1 y1 q x y 3 = lwp x1 y1 q x y 2 := lwp_f (n := 2) (Or.inl hB104)
        exact L4 _ ls hX (hP.sub [0, 1] rfl) hF (by rw [e9]; exact lv_sub hl [0, 1, 2, 3, 4] rfl)
      ·
        refine lv_aload_n X.1 X.2.1 dX1_lowestSide_21 rfl (lv_at hl 2 rfl) ?_
        refine lv_iload X.1 X.2.1 dX1_lowestSide_22 (lv_at hl 1 rfl) ?_
        refine p_callV (C := RX1) (b := o) (As := [.int (nI (lwp x1 y1 q x y 2))]) (rest := []) X (c_X1_isGable l g o r A x1 y1 q (lwp x1 y1 q x y 2) hc3 (hq _ hc3)) ⟨mw_220, mw_222, mw_3, mw_38, mw_223⟩ sgX1_isGable ⟨rfl, rfl, ⟨by decide, by decide⟩, by decide, by decide⟩ (hP.at 0 rfl) rfl rfl (RP.of hP [0, 1] rfl hF) hX.1 rfl hl.1 rfl (Nat.le_of_ble_eq_true rfl) dX1_lowestSide_24 (fun v H105 hk106 hp => ?_)
        obtain rfl := hp
        have hX := hX.tr hk106
        have hP := PP.ext hP hk106
        have hF := RF.ext hF hk106
        refine W.eq (g2 := F0 m 27 ls [.int (bI (gab q (lwp x1 y1 q x y 2)))]) rfl ?_
        refine q_Bne X (tgt := 43) dX1_lowestSide_27 (by decide) (fun hB107 => ?_) (fun hB107 => ?_)
        ·
          refine lv_iload X.1 X.2.1 dX1_lowestSide_43 (lv_at hl 0 rfl) ?_
          refine lv_istore (lv' := [(5, .int (nI 3)), (6, .int (nI 3)), (0, .ref o), (1, .long (lN x)), (3, .long (lN y))]) X.1 X.2.1 dX1_lowestSide_45 hl (by decide) rfl (fun ls hl => ?_)
          refine lv_iinc (v := nI (3 + 1)) (lv' := [(6, .int (nI (3 + 1))), (5, .int (nI 3)), (0, .ref o), (1, .long (lN x)), (3, .long (lN y))]) X.1 X.2.1 dX1_lowestSide_47 hl (k := 1) rfl (nI_1 _) (by decide) rfl (fun ls hl => ?_)
          refine lv_goto (tgt := 6) X.1 X.2.1 dX1_lowestSide_50 (by decide) ?_
          refine W.widen (k := 6) (n := 12) (by decide) (by decide) ?_
          have e9 : lwp x1 y1 q x y 3 = 3 := lwp_t (n := 2) hB104 (Or.inl hB107)
          exact L4 _ ls hX (hP.sub [0, 1] rfl) hF (by rw [e9]; exact lv_sub hl [0, 1, 2, 3, 4] rfl)
        ·
          refine lv_aload_n X.1 X.2.1 dX1_lowestSide_30 rfl (lv_at hl 2 rfl) ?_
          refine lv_iload X.1 X.2.1 dX1_lowestSide_31 (lv_at hl 0 rfl) ?_
          refine lv_iload X.1 X.2.1 dX1_lowestSide_33 (lv_at hl 1 rfl) ?_
          refine lv_lload_n X.1 X.2.1 dX1_lowestSide_35 rfl (lv_at hl 3 rfl) ?_
          refine lv_lload_n X.1 X.2.1 dX1_lowestSide_36 rfl (lv_at hl 4 rfl) ?_
          refine p_callV (C := RX1) (b := o) (As := [.int (nI 3), .int (nI (lwp x1 y1 q x y 2)), .long (lN x), .long (lN y)]) (rest := []) X (c_X1_isLower l g o r A x1 y1 q 3 (lwp x1 y1 q x y 2) x y hO (by decide) hc3 hx hy hB104 hB107) ⟨mw_255, mw_257, mw_6, mw_38, mw_258⟩ sgX1_isLower ⟨rfl, rfl, ⟨by decide, by decide⟩, by decide, by decide⟩ (hP.at 0 rfl) rfl rfl (RP.of hP [0, 1] rfl hF) hX.1 rfl hl.1 rfl (Nat.le_of_ble_eq_true rfl) dX1_lowestSide_37 (fun v H108 hk109 hp => ?_)
          obtain rfl := hp
          have hX := hX.tr hk109
          have hP := PP.ext hP hk109
          have hF := RF.ext hF hk109
          refine W.eq (g2 := F0 m 40 ls [.int (bI (decide (hgt x1 y1 q x y 3 < hgt x1 y1 q x y (lwp x1 y1 q x y 2))))]) rfl ?_
          refine q_Beq X (tgt := 47) dX1_lowestSide_40 (by decide) (fun hB110 => ?_) (fun hB110 => ?_)
          ·
            refine lv_iinc (v := nI (3 + 1)) (lv' := [(6, .int (nI (3 + 1))), (5, .int (nI (lwp x1 y1 q x y 2))), (0, .ref o), (1, .long (lN x)), (3, .long (lN y))]) X.1 X.2.1 dX1_lowestSide_47 hl (k := 0) rfl (nI_1 _) (by decide) rfl (fun ls hl => ?_)
            refine lv_goto (tgt := 6) X.1 X.2.1 dX1_lowestSide_50 (by decide) ?_
            have e9 : lwp x1 y1 q x y 3 = lwp x1 y1 q x y 2 := lwp_f (n := 2) (Or.inr ⟨hB107, of_decide_eq_false hB110⟩)
            exact L4 _ ls hX (hP.sub [0, 1] rfl) hF (by rw [e9]; exact lv_sub hl [0, 1, 2, 3, 4] rfl)
          ·
            refine lv_iload X.1 X.2.1 dX1_lowestSide_43 (lv_at hl 0 rfl) ?_
            refine lv_istore (lv' := [(5, .int (nI 3)), (6, .int (nI 3)), (0, .ref o), (1, .long (lN x)), (3, .long (lN y))]) X.1 X.2.1 dX1_lowestSide_45 hl (by decide) rfl (fun ls hl => ?_)
            refine lv_iinc (v := nI (3 + 1)) (lv' := [(6, .int (nI (3 + 1))), (5, .int (nI 3)), (0, .ref o), (1, .long (lN x)), (3, .long (lN y))]) X.1 X.2.1 dX1_lowestSide_47 hl (k := 1) rfl (nI_1 _) (by decide) rfl (fun ls hl => ?_)
            refine lv_goto (tgt := 6) X.1 X.2.1 dX1_lowestSide_50 (by decide) ?_
            have e9 : lwp x1 y1 q x y 3 = 3 := lwp_t (n := 2) hB104 (Or.inr (of_decide_eq_true hB110))
            exact L4 _ ls hX (hP.sub [0, 1] rfl) hF (by rw [e9]; exact lv_sub hl [0, 1, 2, 3, 4] rfl)
  have hc2 : lwp x1 y1 q x y 1 < 4 := Nat.lt_of_le_of_lt (lwp_le _ _ _ _ _ _) (by decide)
  have L2 : ∀ (H : Heap) (ls : Array Slot), hxt s.heap H → PP g [ob o x1 y1 r, ar g r A] H → RF g A q H → lv_has ls 7 [(6, .int (nI 2)), (5, .int (nI (lwp x1 y1 q x y 1))), (0, .ref o), (1, .long (lN x)), (3, .long (lN y))] → W p l e { frames := 4, cells := 6, slots := 12, locals := 109 } s m ([.ref o, .long (lN x), .long (lN y)] : List Value).toArray below meth c H [] 2 4 (MQ below (pQ (rI (lwp x1 y1 q x y 3))) ([.ref o, .long (lN x), .long (lN y)] : List Value).toArray s 6 12 (fun q => s.heap.size ≤ q)) (F0 m 6 ls []) := by
    intro H ls hX hP hF hl
    refine lv_iload X.1 X.2.1 dX1_lowestSide_6 (lv_at hl 0 rfl) ?_
    refine lv_iconst (v := nI 4) X.1 X.2.1 dX1_lowestSide_8 (by decide) ?_
    refine q_Ige X (by omega) (by omega) (tgt := 53) dX1_lowestSide_9 (by decide) (fun hB101 => ?_) (fun hB101 => ?_)
    ·
      exact absurd hB101 (by decide)
    ·
      refine lv_aload_n X.1 X.2.1 dX1_lowestSide_12 rfl (lv_at hl 2 rfl) ?_
      refine lv_iload X.1 X.2.1 dX1_lowestSide_13 (lv_at hl 0 rfl) ?_
      refine p_callV (C := RX1) (b := o) (As := [.int (nI 2)]) (rest := []) X (c_X1_isGable l g o r A x1 y1 q 2 (by decide) (hq 2 (by decide))) ⟨mw_220, mw_222, mw_3, mw_38, mw_223⟩ sgX1_isGable ⟨rfl, rfl, ⟨by decide, by decide⟩, by decide, by decide⟩ (hP.at 0 rfl) rfl rfl (RP.of hP [0, 1] rfl hF) hX.1 rfl hl.1 rfl (Nat.le_of_ble_eq_true rfl) dX1_lowestSide_15 (fun v H102 hk103 hp => ?_)
      obtain rfl := hp
      have hX := hX.tr hk103
      have hP := PP.ext hP hk103
      have hF := RF.ext hF hk103
      refine W.eq (g2 := F0 m 18 ls [.int (bI (gab q 2))]) rfl ?_
      refine q_Bne X (tgt := 47) dX1_lowestSide_18 (by decide) (fun hB104 => ?_) (fun hB104 => ?_)
      ·
        refine lv_iinc (v := nI (2 + 1)) (lv' := [(6, .int (nI (2 + 1))), (5, .int (nI (lwp x1 y1 q x y 1))), (0, .ref o), (1, .long (lN x)), (3, .long (lN y))]) X.1 X.2.1 dX1_lowestSide_47 hl (k := 0) rfl (nI_1 _) (by decide) rfl (fun ls hl => ?_)
        refine lv_goto (tgt := 6) X.1 X.2.1 dX1_lowestSide_50 (by decide) ?_
        refine W.widen (k := 4) (n := 8) (by decide) (by decide) ?_
        have e9 : lwp x1 y1 q x y 2 = lwp x1 y1 q x y 1 := lwp_f (n := 1) (Or.inl hB104)
        exact L3 _ ls hX (hP.sub [0, 1] rfl) hF (by rw [e9]; exact lv_sub hl [0, 1, 2, 3, 4] rfl)
      ·
        refine lv_aload_n X.1 X.2.1 dX1_lowestSide_21 rfl (lv_at hl 2 rfl) ?_
        refine lv_iload X.1 X.2.1 dX1_lowestSide_22 (lv_at hl 1 rfl) ?_
        refine p_callV (C := RX1) (b := o) (As := [.int (nI (lwp x1 y1 q x y 1))]) (rest := []) X (c_X1_isGable l g o r A x1 y1 q (lwp x1 y1 q x y 1) hc2 (hq _ hc2)) ⟨mw_220, mw_222, mw_3, mw_38, mw_223⟩ sgX1_isGable ⟨rfl, rfl, ⟨by decide, by decide⟩, by decide, by decide⟩ (hP.at 0 rfl) rfl rfl (RP.of hP [0, 1] rfl hF) hX.1 rfl hl.1 rfl (Nat.le_of_ble_eq_true rfl) dX1_lowestSide_24 (fun v H105 hk106 hp => ?_)
        obtain rfl := hp
        have hX := hX.tr hk106
        have hP := PP.ext hP hk106
        have hF := RF.ext hF hk106
        refine W.eq (g2 := F0 m 27 ls [.int (bI (gab q (lwp x1 y1 q x y 1)))]) rfl ?_
        refine q_Bne X (tgt := 43) dX1_lowestSide_27 (by decide) (fun hB107 => ?_) (fun hB107 => ?_)
        ·
          refine lv_iload X.1 X.2.1 dX1_lowestSide_43 (lv_at hl 0 rfl) ?_
          refine lv_istore (lv' := [(5, .int (nI 2)), (6, .int (nI 2)), (0, .ref o), (1, .long (lN x)), (3, .long (lN y))]) X.1 X.2.1 dX1_lowestSide_45 hl (by decide) rfl (fun ls hl => ?_)
          refine lv_iinc (v := nI (2 + 1)) (lv' := [(6, .int (nI (2 + 1))), (5, .int (nI 2)), (0, .ref o), (1, .long (lN x)), (3, .long (lN y))]) X.1 X.2.1 dX1_lowestSide_47 hl (k := 1) rfl (nI_1 _) (by decide) rfl (fun ls hl => ?_)
          refine lv_goto (tgt := 6) X.1 X.2.1 dX1_lowestSide_50 (by decide) ?_
          refine W.widen (k := 4) (n := 8) (by decide) (by decide) ?_
          have e9 : lwp x1 y1 q x y 2 = 2 := lwp_t (n := 1) hB104 (Or.inl hB107)
          exact L3 _ ls hX (hP.sub [0, 1] rfl) hF (by rw [e9]; exact lv_sub hl [0, 1, 2, 3, 4] rfl)
        ·
          refine lv_aload_n X.1 X.2.1 dX1_lowestSide_30 rfl (lv_at hl 2 rfl) ?_
          refine lv_iload X.1 X.2.1 dX1_lowestSide_31 (lv_at hl 0 rfl) ?_
          refine lv_iload X.1 X.2.1 dX1_lowestSide_33 (lv_at hl 1 rfl) ?_
          refine lv_lload_n X.1 X.2.1 dX1_lowestSide_35 rfl (lv_at hl 3 rfl) ?_
          refine lv_lload_n X.1 X.2.1 dX1_lowestSide_36 rfl (lv_at hl 4 rfl) ?_
          refine p_callV (C := RX1) (b := o) (As := [.int (nI 2), .int (nI (lwp x1 y1 q x y 1)), .long (lN x), .long (lN y)]) (rest := []) X (c_X1_isLower l g o r A x1 y1 q 2 (lwp x1 y1 q x y 1) x y hO (by decide) hc2 hx hy hB104 hB107) ⟨mw_255, mw_257, mw_6, mw_38, mw_258⟩ sgX1_isLower ⟨rfl, rfl, ⟨by decide, by decide⟩, by decide, by decide⟩ (hP.at 0 rfl) rfl rfl (RP.of hP [0, 1] rfl hF) hX.1 rfl hl.1 rfl (Nat.le_of_ble_eq_true rfl) dX1_lowestSide_37 (fun v H108 hk109 hp => ?_)
          obtain rfl := hp
          have hX := hX.tr hk109
          have hP := PP.ext hP hk109
          have hF := RF.ext hF hk109
          refine W.eq (g2 := F0 m 40 ls [.int (bI (decide (hgt x1 y1 q x y 2 < hgt x1 y1 q x y (lwp x1 y1 q x y 1))))]) rfl ?_
          refine q_Beq X (tgt := 47) dX1_lowestSide_40 (by decide) (fun hB110 => ?_) (fun hB110 => ?_)
          ·
            refine lv_iinc (v := nI (2 + 1)) (lv' := [(6, .int (nI (2 + 1))), (5, .int (nI (lwp x1 y1 q x y 1))), (0, .ref o), (1, .long (lN x)), (3, .long (lN y))]) X.1 X.2.1 dX1_lowestSide_47 hl (k := 0) rfl (nI_1 _) (by decide) rfl (fun ls hl => ?_)
            refine lv_goto (tgt := 6) X.1 X.2.1 dX1_lowestSide_50 (by decide) ?_
            have e9 : lwp x1 y1 q x y 2 = lwp x1 y1 q x y 1 := lwp_f (n := 1) (Or.inr ⟨hB107, of_decide_eq_false hB110⟩)
            exact L3 _ ls hX (hP.sub [0, 1] rfl) hF (by rw [e9]; exact lv_sub hl [0, 1, 2, 3, 4] rfl)
          ·
            refine lv_iload X.1 X.2.1 dX1_lowestSide_43 (lv_at hl 0 rfl) ?_
            refine lv_istore (lv' := [(5, .int (nI 2)), (6, .int (nI 2)), (0, .ref o), (1, .long (lN x)), (3, .long (lN y))]) X.1 X.2.1 dX1_lowestSide_45 hl (by decide) rfl (fun ls hl => ?_)
            refine lv_iinc (v := nI (2 + 1)) (lv' := [(6, .int (nI (2 + 1))), (5, .int (nI 2)), (0, .ref o), (1, .long (lN x)), (3, .long (lN y))]) X.1 X.2.1 dX1_lowestSide_47 hl (k := 1) rfl (nI_1 _) (by decide) rfl (fun ls hl => ?_)
            refine lv_goto (tgt := 6) X.1 X.2.1 dX1_lowestSide_50 (by decide) ?_
            have e9 : lwp x1 y1 q x y 2 = 2 := lwp_t (n := 1) hB104 (Or.inr (of_decide_eq_true hB110))
            exact L3 _ ls hX (hP.sub [0, 1] rfl) hF (by rw [e9]; exact lv_sub hl [0, 1, 2, 3, 4] rfl)
  have hc1 : lwp x1 y1 q x y 0 < 4 := Nat.lt_of_le_of_lt (lwp_le _ _ _ _ _ _) (by decide)
  have L1 : ∀ (H : Heap) (ls : Array Slot), hxt s.heap H → PP g [ob o x1 y1 r, ar g r A] H → RF g A q H → lv_has ls 7 [(6, .int (nI 1)), (5, .int (nI (lwp x1 y1 q x y 0))), (0, .ref o), (1, .long (lN x)), (3, .long (lN y))] → W p l e { frames := 4, cells := 6, slots := 12, locals := 109 } s m ([.ref o, .long (lN x), .long (lN y)] : List Value).toArray below meth c H [] 0 0 (MQ below (pQ (rI (lwp x1 y1 q x y 3))) ([.ref o, .long (lN x), .long (lN y)] : List Value).toArray s 6 12 (fun q => s.heap.size ≤ q)) (F0 m 6 ls []) := by
    intro H ls hX hP hF hl
    refine lv_iload X.1 X.2.1 dX1_lowestSide_6 (lv_at hl 0 rfl) ?_
    refine lv_iconst (v := nI 4) X.1 X.2.1 dX1_lowestSide_8 (by decide) ?_
    refine q_Ige X (by omega) (by omega) (tgt := 53) dX1_lowestSide_9 (by decide) (fun hB101 => ?_) (fun hB101 => ?_)
    ·
      exact absurd hB101 (by decide)
    ·
      refine lv_aload_n X.1 X.2.1 dX1_lowestSide_12 rfl (lv_at hl 2 rfl) ?_
      refine lv_iload X.1 X.2.1 dX1_lowestSide_13 (lv_at hl 0 rfl) ?_
      refine p_callV (C := RX1) (b := o) (As := [.int (nI 1)]) (rest := []) X (c_X1_isGable l g o r A x1 y1 q 1 (by decide) (hq 1 (by decide))) ⟨mw_220, mw_222, mw_3, mw_38, mw_223⟩ sgX1_isGable ⟨rfl, rfl, ⟨by decide, by decide⟩, by decide, by decide⟩ (hP.at 0 rfl) rfl rfl (RP.of hP [0, 1] rfl hF) hX.1 rfl hl.1 rfl (Nat.le_of_ble_eq_true rfl) dX1_lowestSide_15 (fun v H102 hk103 hp => ?_)
      obtain rfl := hp
      have hX := hX.tr hk103
      have hP := PP.ext hP hk103
      have hF := RF.ext hF hk103
      refine W.eq (g2 := F0 m 18 ls [.int (bI (gab q 1))]) rfl ?_
      refine q_Bne X (tgt := 47) dX1_lowestSide_18 (by decide) (fun hB104 => ?_) (fun hB104 => ?_)
      ·
        refine lv_iinc (v := nI (1 + 1)) (lv' := [(6, .int (nI (1 + 1))), (5, .int (nI (lwp x1 y1 q x y 0))), (0, .ref o), (1, .long (lN x)), (3, .long (lN y))]) X.1 X.2.1 dX1_lowestSide_47 hl (k := 0) rfl (nI_1 _) (by decide) rfl (fun ls hl => ?_)
        refine lv_goto (tgt := 6) X.1 X.2.1 dX1_lowestSide_50 (by decide) ?_
        refine W.widen (k := 2) (n := 4) (by decide) (by decide) ?_
        have e9 : lwp x1 y1 q x y 1 = lwp x1 y1 q x y 0 := lwp_f (n := 0) (Or.inl hB104)
        exact L2 _ ls hX (hP.sub [0, 1] rfl) hF (by rw [e9]; exact lv_sub hl [0, 1, 2, 3, 4] rfl)
      ·
        refine lv_aload_n X.1 X.2.1 dX1_lowestSide_21 rfl (lv_at hl 2 rfl) ?_
        refine lv_iload X.1 X.2.1 dX1_lowestSide_22 (lv_at hl 1 rfl) ?_
        refine p_callV (C := RX1) (b := o) (As := [.int (nI (lwp x1 y1 q x y 0))]) (rest := []) X (c_X1_isGable l g o r A x1 y1 q (lwp x1 y1 q x y 0) hc1 (hq _ hc1)) ⟨mw_220, mw_222, mw_3, mw_38, mw_223⟩ sgX1_isGable ⟨rfl, rfl, ⟨by decide, by decide⟩, by decide, by decide⟩ (hP.at 0 rfl) rfl rfl (RP.of hP [0, 1] rfl hF) hX.1 rfl hl.1 rfl (Nat.le_of_ble_eq_true rfl) dX1_lowestSide_24 (fun v H105 hk106 hp => ?_)
        obtain rfl := hp
        have hX := hX.tr hk106
        have hP := PP.ext hP hk106
        have hF := RF.ext hF hk106
        refine W.eq (g2 := F0 m 27 ls [.int (bI (gab q (lwp x1 y1 q x y 0)))]) rfl ?_
        refine q_Bne X (tgt := 43) dX1_lowestSide_27 (by decide) (fun hB107 => ?_) (fun hB107 => ?_)
        ·
          refine lv_iload X.1 X.2.1 dX1_lowestSide_43 (lv_at hl 0 rfl) ?_
          refine lv_istore (lv' := [(5, .int (nI 1)), (6, .int (nI 1)), (0, .ref o), (1, .long (lN x)), (3, .long (lN y))]) X.1 X.2.1 dX1_lowestSide_45 hl (by decide) rfl (fun ls hl => ?_)
          refine lv_iinc (v := nI (1 + 1)) (lv' := [(6, .int (nI (1 + 1))), (5, .int (nI 1)), (0, .ref o), (1, .long (lN x)), (3, .long (lN y))]) X.1 X.2.1 dX1_lowestSide_47 hl (k := 1) rfl (nI_1 _) (by decide) rfl (fun ls hl => ?_)
          refine lv_goto (tgt := 6) X.1 X.2.1 dX1_lowestSide_50 (by decide) ?_
          refine W.widen (k := 2) (n := 4) (by decide) (by decide) ?_
          have e9 : lwp x1 y1 q x y 1 = 1 := lwp_t (n := 0) hB104 (Or.inl hB107)
          exact L2 _ ls hX (hP.sub [0, 1] rfl) hF (by rw [e9]; exact lv_sub hl [0, 1, 2, 3, 4] rfl)
        ·
          refine lv_aload_n X.1 X.2.1 dX1_lowestSide_30 rfl (lv_at hl 2 rfl) ?_
          refine lv_iload X.1 X.2.1 dX1_lowestSide_31 (lv_at hl 0 rfl) ?_
          refine lv_iload X.1 X.2.1 dX1_lowestSide_33 (lv_at hl 1 rfl) ?_
          refine lv_lload_n X.1 X.2.1 dX1_lowestSide_35 rfl (lv_at hl 3 rfl) ?_
          refine lv_lload_n X.1 X.2.1 dX1_lowestSide_36 rfl (lv_at hl 4 rfl) ?_
          refine p_callV (C := RX1) (b := o) (As := [.int (nI 1), .int (nI (lwp x1 y1 q x y 0)), .long (lN x), .long (lN y)]) (rest := []) X (c_X1_isLower l g o r A x1 y1 q 1 (lwp x1 y1 q x y 0) x y hO (by decide) hc1 hx hy hB104 hB107) ⟨mw_255, mw_257, mw_6, mw_38, mw_258⟩ sgX1_isLower ⟨rfl, rfl, ⟨by decide, by decide⟩, by decide, by decide⟩ (hP.at 0 rfl) rfl rfl (RP.of hP [0, 1] rfl hF) hX.1 rfl hl.1 rfl (Nat.le_of_ble_eq_true rfl) dX1_lowestSide_37 (fun v H108 hk109 hp => ?_)
          obtain rfl := hp
          have hX := hX.tr hk109
          have hP := PP.ext hP hk109
          have hF := RF.ext hF hk109
          refine W.eq (g2 := F0 m 40 ls [.int (bI (decide (hgt x1 y1 q x y 1 < hgt x1 y1 q x y (lwp x1 y1 q x y 0))))]) rfl ?_
          refine q_Beq X (tgt := 47) dX1_lowestSide_40 (by decide) (fun hB110 => ?_) (fun hB110 => ?_)
          ·
            refine lv_iinc (v := nI (1 + 1)) (lv' := [(6, .int (nI (1 + 1))), (5, .int (nI (lwp x1 y1 q x y 0))), (0, .ref o), (1, .long (lN x)), (3, .long (lN y))]) X.1 X.2.1 dX1_lowestSide_47 hl (k := 0) rfl (nI_1 _) (by decide) rfl (fun ls hl => ?_)
            refine lv_goto (tgt := 6) X.1 X.2.1 dX1_lowestSide_50 (by decide) ?_
            have e9 : lwp x1 y1 q x y 1 = lwp x1 y1 q x y 0 := lwp_f (n := 0) (Or.inr ⟨hB107, of_decide_eq_false hB110⟩)
            exact L2 _ ls hX (hP.sub [0, 1] rfl) hF (by rw [e9]; exact lv_sub hl [0, 1, 2, 3, 4] rfl)
          ·
            refine lv_iload X.1 X.2.1 dX1_lowestSide_43 (lv_at hl 0 rfl) ?_
            refine lv_istore (lv' := [(5, .int (nI 1)), (6, .int (nI 1)), (0, .ref o), (1, .long (lN x)), (3, .long (lN y))]) X.1 X.2.1 dX1_lowestSide_45 hl (by decide) rfl (fun ls hl => ?_)
            refine lv_iinc (v := nI (1 + 1)) (lv' := [(6, .int (nI (1 + 1))), (5, .int (nI 1)), (0, .ref o), (1, .long (lN x)), (3, .long (lN y))]) X.1 X.2.1 dX1_lowestSide_47 hl (k := 1) rfl (nI_1 _) (by decide) rfl (fun ls hl => ?_)
            refine lv_goto (tgt := 6) X.1 X.2.1 dX1_lowestSide_50 (by decide) ?_
            have e9 : lwp x1 y1 q x y 1 = 1 := lwp_t (n := 0) hB104 (Or.inr (of_decide_eq_true hB110))
            exact L2 _ ls hX (hP.sub [0, 1] rfl) hF (by rw [e9]; exact lv_sub hl [0, 1, 2, 3, 4] rfl)
  have hl : lv_has ls 7 [(0, .ref o), (1, .long (lN x)), (3, .long (lN y))] := hl
  have hX : hxt s.heap s.heap := hxt.rf
  have hP : PP g [ob o x1 y1 r, ar g r A] s.heap := hP
  refine lv_iconst (v := nI 0) X.1 X.2.1 dX1_lowestSide_0 (by decide) ?_
  refine lv_istore (lv' := [(5, .int (nI 0)), (0, .ref o), (1, .long (lN x)), (3, .long (lN y))]) X.1 X.2.1 dX1_lowestSide_1 hl (by decide) rfl (fun ls hl => ?_)
  refine lv_iconst (v := nI 1) X.1 X.2.1 dX1_lowestSide_3 (by decide) ?_
  refine lv_istore (lv' := [(6, .int (nI 1)), (5, .int (nI 0)), (0, .ref o), (1, .long (lN x)), (3, .long (lN y))]) X.1 X.2.1 dX1_lowestSide_4 hl (by decide) rfl (fun ls hl => ?_)
  exact L1 _ ls hX hP hF (lv_sub hl [0, 1, 2, 3, 4] rfl)
set_option maxHeartbeats 4000000 in
set_option maxRecDepth 100000 in
theorem c_X1_limitBy (l : Launch) (g : En) (o r : Nat) (A : Nat → Nat) (x1 y1 : Nat) (q : Nat → Rat) (j k t : Nat) (hO : OK x1 y1 q) (hj : j < 4) (hk : k < 4) (ht : t ≤ slen x1 y1 k) (hg : gab q k = false) (hgo : j = opp k ∨ gab q j = false) : PM l yX1_limitBy cX1_limitBy 9 (some (FieldType.object "RafterPlaces$Fraction")) { frames := 3, cells := 3, slots := 6, locals := 80 } g [.ref o, .int (nI j), .int (nI k), .long (lN t)] (fun H => RP g o r A x1 y1 q H) 3 6 (rF g (lim x1 y1 q k t j)) := by
  refine PM.of (by decide) (Nat.le_of_ble_eq_true rfl) (fun p e s m below meth c ls X hG hl => ?_)
  obtain ⟨hP, hF⟩ := hG
  have b1 := hO.2.2.1 k hk
  have b2 := hO.2.2.1 j hj
  have p1 := gab_pos b1 hg
  have hsl := slen_le hO k
  have hwl := wayo_le hO k
  have hop := opp_lt k
  have hl : lv_has ls 9 [(0, .ref o), (1, .int (nI j)), (2, .int (nI k)), (3, .long (lN t))] := hl
  have hX : hxt s.heap s.heap := hxt.rf
  have hP : PP g [ob o x1 y1 r, ar g r A] s.heap := hP
  refine lv_aload_n X.1 X.2.1 dX1_limitBy_0 rfl (lv_at hl 0 rfl) ?_
  refine p_get (T := TX1) X uX1 (hP.at 0 rfl) rfl 2 (by decide) mw_79 rfl rfl dX1_limitBy_1 ?_
  refine lv_iload_n X.1 X.2.1 dX1_limitBy_4 rfl (lv_at hl 2 rfl) ?_
  refine p_aald X (hP.at 1 rfl) hk (by decide) (r := A k) rfl dX1_limitBy_5 ?_
  have hP := PP.cons (hF k hk) hP
  refine lv_astore (lv' := [(5, .ref (A k)), (0, .ref o), (1, .int (nI j)), (2, .int (nI k)), (3, .long (lN t))]) X.1 X.2.1 dX1_limitBy_6 hl (by decide) rfl (fun ls hl => ?_)
  refine lv_iload_n X.1 X.2.1 dX1_limitBy_8 rfl (lv_at hl 2 rfl) ?_
  refine lv_iload_n X.1 X.2.1 dX1_limitBy_9 rfl (lv_at hl 3 rfl) ?_
  refine p_callS (As := [.int (nI k)]) (rest := [.int (nI j)]) X (c_X1_opposite l g k hk) ⟨mw_321, mw_322, mw_38, mw_323⟩ sgX1_opposite ⟨rfl, rfl, ⟨by decide, by decide⟩, by decide, by decide⟩ (trivial) hX.1 rfl hl.1 rfl (Nat.le_of_ble_eq_true rfl) dX1_limitBy_10 (fun v H1 hk2 hp => ?_)
  obtain rfl := hp
  have hX := hX.tr hk2
  have hP := PP.ext hP hk2
  have hF := RF.ext hF hk2
  refine W.eq (g2 := F0 m 13 ls [.int (nI (opp k)), .int (nI j)]) rfl ?_
  refine q_Ine X (by omega) (by omega) (tgt := 41) dX1_limitBy_13 (by decide) (fun hB3 => ?_) (fun hB3 => ?_)
  ·
    have p2 : 0 < q j := gab_pos b2 (hgo.resolve_left hB3)
    refine lv_iload_n X.1 X.2.1 dX1_limitBy_41 rfl (lv_at hl 2 rfl) ?_
    refine q_Zeq X (by omega) (tgt := 50) dX1_limitBy_42 (by decide) (fun hB4 => ?_) (fun hB4 => ?_)
    ·
      refine lv_iconst (v := nI 1) X.1 X.2.1 dX1_limitBy_50 (by decide) ?_
      refine lv_goto (tgt := 55) X.1 X.2.1 dX1_limitBy_51 (by decide) ?_
      refine lv_istore (lv' := [(6, .int (nI 1)), (5, .ref (A k)), (0, .ref o), (1, .int (nI j)), (2, .int (nI k)), (3, .long (lN t))]) X.1 X.2.1 dX1_limitBy_55 hl (by decide) rfl (fun ls hl => ?_)
      refine lv_iload X.1 X.2.1 dX1_limitBy_57 (lv_at hl 0 rfl) ?_
      refine q_Zeq X (by omega) (tgt := 66) dX1_limitBy_59 (by decide) (fun hB5 => ?_) (fun hB5 => ?_)
      ·
        exact absurd hB5 (by decide)
      ·
        refine lv_lload_n X.1 X.2.1 dX1_limitBy_62 rfl (lv_at hl 5 rfl) ?_
        refine lv_goto (tgt := 73) X.1 X.2.1 dX1_limitBy_63 (by decide) ?_
        refine lv_lstore (lv' := [(7, .long (lN t)), (6, .int (nI 1)), (5, .ref (A k)), (0, .ref o), (1, .int (nI j)), (2, .int (nI k)), (3, .long (lN t))]) X.1 X.2.1 dX1_limitBy_73 hl (by decide) rfl (fun ls hl => ?_)
        refine lv_aload X.1 X.2.1 dX1_limitBy_75 (lv_at hl 2 rfl) ?_
        refine lv_aload_n X.1 X.2.1 dX1_limitBy_77 rfl (lv_at hl 3 rfl) ?_
        refine p_get (T := TX1) X uX1 (hP.at 1 rfl) rfl 2 (by decide) mw_79 rfl rfl dX1_limitBy_78 ?_
        refine lv_iload_n X.1 X.2.1 dX1_limitBy_81 rfl (lv_at hl 4 rfl) ?_
        have eL : lim x1 y1 q k t j = q k / q j * ((t : Nat) : Rat) := by rw [lim, if_neg hB3, if_pos (Or.inl hB4)]
        have hv : t ≤ 2000 := by omega
        refine p_aald X (hP.at 2 rfl) hj (by decide) (r := A j) rfl dX1_limitBy_82 ?_
        have hP := PP.cons (hF j hj) hP
        refine p_callV (C := RX0) (b := A k) (As := [.ref (A j)]) (rest := []) X (b_div l g _ _ b1 b2 p2 (by decide) (by decide)) ⟨mw_334, mw_335, mw_336, mw_39, mw_337⟩ sgX0_dividedBy ⟨rfl, rfl, ⟨by decide, by decide⟩, by decide, by decide⟩ (hP.at 1 rfl) rfl rfl (hP.sub [1, 0] rfl) hX.1 rfl hl.1 rfl (Nat.le_of_ble_eq_true rfl) dX1_limitBy_83 (fun v H6 hk7 hp => ?_)
        obtain ⟨r8, rfl, hr8⟩ := hp
        have hX := hX.tr hk7
        have hP := PP.ext hP hk7
        have hF := RF.ext hF hk7
        have hP := PP.cons hr8 hP
        refine W.eq (g2 := F0 m 86 ls [.ref r8]) rfl ?_
        refine lv_lload X.1 X.2.1 dX1_limitBy_86 (lv_at hl 0 rfl) ?_
        refine p_callV (C := RX0) (b := r8) (As := [.long (lN t)]) (rest := []) X (b_timesn l g _ (bd_div b1 b2 p2) hv (by decide) (by decide)) ⟨mw_342, mw_343, mw_344, mw_39, mw_345⟩ sgX0_times_ ⟨rfl, rfl, ⟨by decide, by decide⟩, by decide, by decide⟩ (hP.at 0 rfl) rfl rfl (hP.sub [0] rfl) hX.1 rfl hl.1 rfl (Nat.le_of_ble_eq_true rfl) dX1_limitBy_88 (fun v H9 hk10 hp => ?_)
        obtain ⟨r11, rfl, hr11⟩ := hp
        have hX := hX.tr hk10
        have hP := PP.ext hP hk10
        have hF := RF.ext hF hk10
        have hP := PP.cons hr11 hP
        refine W.eq (g2 := F0 m 91 ls [.ref r11]) rfl ?_
        rw [← eL] at hP
        exact p_aret X hX (⟨_, rfl, hP.at 0 rfl⟩) ⟨by decide, by decide⟩ dX1_limitBy_91
    ·
      refine lv_iload_n X.1 X.2.1 dX1_limitBy_45 rfl (lv_at hl 2 rfl) ?_
      refine lv_iconst (v := nI 3) X.1 X.2.1 dX1_limitBy_46 (by decide) ?_
      refine q_Ine X (by omega) (by omega) (tgt := 54) dX1_limitBy_47 (by decide) (fun hB12 => ?_) (fun hB12 => ?_)
      ·
        refine lv_iconst (v := nI 0) X.1 X.2.1 dX1_limitBy_54 (by decide) ?_
        refine lv_istore (lv' := [(6, .int (nI 0)), (5, .ref (A k)), (0, .ref o), (1, .int (nI j)), (2, .int (nI k)), (3, .long (lN t))]) X.1 X.2.1 dX1_limitBy_55 hl (by decide) rfl (fun ls hl => ?_)
        refine lv_iload X.1 X.2.1 dX1_limitBy_57 (lv_at hl 0 rfl) ?_
        refine q_Zeq X (by omega) (tgt := 66) dX1_limitBy_59 (by decide) (fun hB13 => ?_) (fun hB13 => ?_)
        ·
          refine lv_aload_n X.1 X.2.1 dX1_limitBy_66 rfl (lv_at hl 2 rfl) ?_
          refine lv_iload_n X.1 X.2.1 dX1_limitBy_67 rfl (lv_at hl 4 rfl) ?_
          refine p_callV (C := RX1) (b := o) (As := [.int (nI k)]) (rest := []) X (c_X1_sideLength l g o r A x1 y1 q k hk) ⟨mw_295, mw_297, mw_10, mw_38, mw_298⟩ sgX1_sideLength ⟨rfl, rfl, ⟨by decide, by decide⟩, by decide, by decide⟩ (hP.at 1 rfl) rfl rfl (RP.of hP [1, 2] rfl hF) hX.1 rfl hl.1 rfl (Nat.le_of_ble_eq_true rfl) dX1_limitBy_68 (fun v H14 hk15 hp => ?_)
          obtain rfl := hp
          have hX := hX.tr hk15
          have hP := PP.ext hP hk15
          have hF := RF.ext hF hk15
          refine W.eq (g2 := F0 m 71 ls [.long (lN (slen x1 y1 k))]) rfl ?_
          refine lv_lload_n X.1 X.2.1 dX1_limitBy_71 rfl (lv_at hl 5 rfl) ?_
          refine lv_lsub X.1 X.2.1 dX1_limitBy_72 ?_
          refine w_l (lN_sub ht) ?_
          refine lv_lstore (lv' := [(7, .long (lN ((slen x1 y1 k) - t))), (6, .int (nI 0)), (5, .ref (A k)), (0, .ref o), (1, .int (nI j)), (2, .int (nI k)), (3, .long (lN t))]) X.1 X.2.1 dX1_limitBy_73 hl (by decide) rfl (fun ls hl => ?_)
          have eL : lim x1 y1 q k t j = q k / q j * ((slen x1 y1 k - t : Nat) : Rat) := by rw [lim, if_neg hB3, if_neg (by omega)]
          have hv : slen x1 y1 k - t ≤ 2000 := by omega
          refine lv_aload X.1 X.2.1 dX1_limitBy_75 (lv_at hl 2 rfl) ?_
          refine lv_aload_n X.1 X.2.1 dX1_limitBy_77 rfl (lv_at hl 3 rfl) ?_
          refine p_get (T := TX1) X uX1 (hP.at 1 rfl) rfl 2 (by decide) mw_79 rfl rfl dX1_limitBy_78 ?_
          refine lv_iload_n X.1 X.2.1 dX1_limitBy_81 rfl (lv_at hl 4 rfl) ?_
          refine p_aald X (hP.at 2 rfl) hj (by decide) (r := A j) rfl dX1_limitBy_82 ?_
          have hP := PP.cons (hF j hj) hP
          refine p_callV (C := RX0) (b := A k) (As := [.ref (A j)]) (rest := []) X (b_div l g _ _ b1 b2 p2 (by decide) (by decide)) ⟨mw_334, mw_335, mw_336, mw_39, mw_337⟩ sgX0_dividedBy ⟨rfl, rfl, ⟨by decide, by decide⟩, by decide, by decide⟩ (hP.at 1 rfl) rfl rfl (hP.sub [1, 0] rfl) hX.1 rfl hl.1 rfl (Nat.le_of_ble_eq_true rfl) dX1_limitBy_83 (fun v H16 hk17 hp => ?_)
          obtain ⟨r18, rfl, hr18⟩ := hp
          have hX := hX.tr hk17
          have hP := PP.ext hP hk17
          have hF := RF.ext hF hk17
          have hP := PP.cons hr18 hP
          refine W.eq (g2 := F0 m 86 ls [.ref r18]) rfl ?_
          refine lv_lload X.1 X.2.1 dX1_limitBy_86 (lv_at hl 0 rfl) ?_
          refine p_callV (C := RX0) (b := r18) (As := [.long (lN ((slen x1 y1 k) - t))]) (rest := []) X (b_timesn l g _ (bd_div b1 b2 p2) hv (by decide) (by decide)) ⟨mw_342, mw_343, mw_344, mw_39, mw_345⟩ sgX0_times_ ⟨rfl, rfl, ⟨by decide, by decide⟩, by decide, by decide⟩ (hP.at 0 rfl) rfl rfl (hP.sub [0] rfl) hX.1 rfl hl.1 rfl (Nat.le_of_ble_eq_true rfl) dX1_limitBy_88 (fun v H19 hk20 hp => ?_)
          obtain ⟨r21, rfl, hr21⟩ := hp
          have hX := hX.tr hk20
          have hP := PP.ext hP hk20
          have hF := RF.ext hF hk20
          have hP := PP.cons hr21 hP
          refine W.eq (g2 := F0 m 91 ls [.ref r21]) rfl ?_
          rw [← eL] at hP
          exact p_aret X hX (⟨_, rfl, hP.at 0 rfl⟩) ⟨by decide, by decide⟩ dX1_limitBy_91
        ·
          exact absurd hB13 (by decide)
      ·
        refine lv_iconst (v := nI 1) X.1 X.2.1 dX1_limitBy_50 (by decide) ?_
        refine lv_goto (tgt := 55) X.1 X.2.1 dX1_limitBy_51 (by decide) ?_
        refine lv_istore (lv' := [(6, .int (nI 1)), (5, .ref (A k)), (0, .ref o), (1, .int (nI j)), (2, .int (nI k)), (3, .long (lN t))]) X.1 X.2.1 dX1_limitBy_55 hl (by decide) rfl (fun ls hl => ?_)
        refine lv_iload X.1 X.2.1 dX1_limitBy_57 (lv_at hl 0 rfl) ?_
        refine q_Zeq X (by omega) (tgt := 66) dX1_limitBy_59 (by decide) (fun hB22 => ?_) (fun hB22 => ?_)
        ·
          exact absurd hB22 (by decide)
        ·
          refine lv_lload_n X.1 X.2.1 dX1_limitBy_62 rfl (lv_at hl 5 rfl) ?_
          refine lv_goto (tgt := 73) X.1 X.2.1 dX1_limitBy_63 (by decide) ?_
          refine lv_lstore (lv' := [(7, .long (lN t)), (6, .int (nI 1)), (5, .ref (A k)), (0, .ref o), (1, .int (nI j)), (2, .int (nI k)), (3, .long (lN t))]) X.1 X.2.1 dX1_limitBy_73 hl (by decide) rfl (fun ls hl => ?_)
          refine lv_aload X.1 X.2.1 dX1_limitBy_75 (lv_at hl 2 rfl) ?_
          refine lv_aload_n X.1 X.2.1 dX1_limitBy_77 rfl (lv_at hl 3 rfl) ?_
          refine p_get (T := TX1) X uX1 (hP.at 1 rfl) rfl 2 (by decide) mw_79 rfl rfl dX1_limitBy_78 ?_
          refine lv_iload_n X.1 X.2.1 dX1_limitBy_81 rfl (lv_at hl 4 rfl) ?_
          have eL : lim x1 y1 q k t j = q k / q j * ((t : Nat) : Rat) := by rw [lim, if_neg hB3, if_pos (Or.inr hB12)]
          have hv : t ≤ 2000 := by omega
          refine p_aald X (hP.at 2 rfl) hj (by decide) (r := A j) rfl dX1_limitBy_82 ?_
          have hP := PP.cons (hF j hj) hP
          refine p_callV (C := RX0) (b := A k) (As := [.ref (A j)]) (rest := []) X (b_div l g _ _ b1 b2 p2 (by decide) (by decide)) ⟨mw_334, mw_335, mw_336, mw_39, mw_337⟩ sgX0_dividedBy ⟨rfl, rfl, ⟨by decide, by decide⟩, by decide, by decide⟩ (hP.at 1 rfl) rfl rfl (hP.sub [1, 0] rfl) hX.1 rfl hl.1 rfl (Nat.le_of_ble_eq_true rfl) dX1_limitBy_83 (fun v H23 hk24 hp => ?_)
          obtain ⟨r25, rfl, hr25⟩ := hp
          have hX := hX.tr hk24
          have hP := PP.ext hP hk24
          have hF := RF.ext hF hk24
          have hP := PP.cons hr25 hP
          refine W.eq (g2 := F0 m 86 ls [.ref r25]) rfl ?_
          refine lv_lload X.1 X.2.1 dX1_limitBy_86 (lv_at hl 0 rfl) ?_
          refine p_callV (C := RX0) (b := r25) (As := [.long (lN t)]) (rest := []) X (b_timesn l g _ (bd_div b1 b2 p2) hv (by decide) (by decide)) ⟨mw_342, mw_343, mw_344, mw_39, mw_345⟩ sgX0_times_ ⟨rfl, rfl, ⟨by decide, by decide⟩, by decide, by decide⟩ (hP.at 0 rfl) rfl rfl (hP.sub [0] rfl) hX.1 rfl hl.1 rfl (Nat.le_of_ble_eq_true rfl) dX1_limitBy_88 (fun v H26 hk27 hp => ?_)
          obtain ⟨r28, rfl, hr28⟩ := hp
          have hX := hX.tr hk27
          have hP := PP.ext hP hk27
          have hF := RF.ext hF hk27
          have hP := PP.cons hr28 hP
          refine W.eq (g2 := F0 m 91 ls [.ref r28]) rfl ?_
          rw [← eL] at hP
          exact p_aret X hX (⟨_, rfl, hP.at 0 rfl⟩) ⟨by decide, by decide⟩ dX1_limitBy_91
  ·
    have b3 := bd_add b1 b2
    have p3 : 0 < q k + q j := by have := b2.1; grind
    have eL : lim x1 y1 q k t j = q k / (q k + q j) * ((wayo x1 y1 k : Nat) : Rat) := by rw [lim, if_pos hB3]
    refine lv_aload X.1 X.2.1 dX1_limitBy_16 (lv_at hl 0 rfl) ?_
    refine lv_aload X.1 X.2.1 dX1_limitBy_18 (lv_at hl 0 rfl) ?_
    refine lv_aload_n X.1 X.2.1 dX1_limitBy_20 rfl (lv_at hl 1 rfl) ?_
    refine p_get (T := TX1) X uX1 (hP.at 1 rfl) rfl 2 (by decide) mw_79 rfl rfl dX1_limitBy_21 ?_
    refine lv_iload_n X.1 X.2.1 dX1_limitBy_24 rfl (lv_at hl 2 rfl) ?_
    refine p_aald X (hP.at 2 rfl) hj (by decide) (r := A j) rfl dX1_limitBy_25 ?_
    have hP := PP.cons (hF j hj) hP
    refine p_callV (C := RX0) (b := A k) (As := [.ref (A j)]) (rest := [.ref (A k)]) X (b_plus l g _ _ b1 b2 (by decide) (by decide)) ⟨mw_328, mw_329, mw_330, mw_39, mw_331⟩ sgX0_plus ⟨rfl, rfl, ⟨by decide, by decide⟩, by decide, by decide⟩ (hP.at 1 rfl) rfl rfl (hP.sub [1, 0] rfl) hX.1 rfl hl.1 rfl (Nat.le_of_ble_eq_true rfl) dX1_limitBy_26 (fun v H29 hk30 hp => ?_)
    obtain ⟨r31, rfl, hr31⟩ := hp
    have hX := hX.tr hk30
    have hP := PP.ext hP hk30
    have hF := RF.ext hF hk30
    have hP := PP.cons hr31 hP
    refine W.eq (g2 := F0 m 29 ls [.ref r31, .ref (A k)]) rfl ?_
    refine p_callV (C := RX0) (b := A k) (As := [.ref r31]) (rest := []) X (b_div l g _ _ b1 b3 p3 (by decide) (by decide)) ⟨mw_334, mw_335, mw_336, mw_39, mw_337⟩ sgX0_dividedBy ⟨rfl, rfl, ⟨by decide, by decide⟩, by decide, by decide⟩ (hP.at 2 rfl) rfl rfl (hP.sub [2, 0] rfl) hX.1 rfl hl.1 rfl (Nat.le_of_ble_eq_true rfl) dX1_limitBy_29 (fun v H32 hk33 hp => ?_)
    obtain ⟨r34, rfl, hr34⟩ := hp
    have hX := hX.tr hk33
    have hP := PP.ext hP hk33
    have hF := RF.ext hF hk33
    have hP := PP.cons hr34 hP
    refine W.eq (g2 := F0 m 32 ls [.ref r34]) rfl ?_
    refine lv_aload_n X.1 X.2.1 dX1_limitBy_32 rfl (lv_at hl 1 rfl) ?_
    refine lv_iload_n X.1 X.2.1 dX1_limitBy_33 rfl (lv_at hl 3 rfl) ?_
    refine p_callV (C := RX1) (b := o) (As := [.int (nI k)]) (rest := [.ref r34]) X (c_X1_wayToOpposite l g o r A x1 y1 q k hk) ⟨mw_338, mw_340, mw_15, mw_38, mw_341⟩ sgX1_wayToOpposite ⟨rfl, rfl, ⟨by decide, by decide⟩, by decide, by decide⟩ (hP.at 4 rfl) rfl rfl (RP.of hP [4, 5] rfl hF) hX.1 rfl hl.1 rfl (Nat.le_of_ble_eq_true rfl) dX1_limitBy_34 (fun v H35 hk36 hp => ?_)
    obtain rfl := hp
    have hX := hX.tr hk36
    have hP := PP.ext hP hk36
    have hF := RF.ext hF hk36
    refine W.eq (g2 := F0 m 37 ls [.long (lN (wayo x1 y1 k)), .ref r34]) rfl ?_
    refine p_callV (C := RX0) (b := r34) (As := [.long (lN (wayo x1 y1 k))]) (rest := []) X (b_timesn l g _ (bd_div b1 b3 p3) hwl (by decide) (by decide)) ⟨mw_342, mw_343, mw_344, mw_39, mw_345⟩ sgX0_times_ ⟨rfl, rfl, ⟨by decide, by decide⟩, by decide, by decide⟩ (hP.at 0 rfl) rfl rfl (hP.sub [0] rfl) hX.1 rfl hl.1 rfl (Nat.le_of_ble_eq_true rfl) dX1_limitBy_37 (fun v H37 hk38 hp => ?_)
    obtain ⟨r39, rfl, hr39⟩ := hp
    have hX := hX.tr hk38
    have hP := PP.ext hP hk38
    have hF := RF.ext hF hk38
    have hP := PP.cons hr39 hP
    refine W.eq (g2 := F0 m 40 ls [.ref r39]) rfl ?_
    rw [← eL] at hP
    exact p_aret X hX (⟨_, rfl, hP.at 0 rfl⟩) ⟨by decide, by decide⟩ dX1_limitBy_40
set_option maxHeartbeats 4000000 in
set_option maxRecDepth 100000 in
theorem c_X1_endingSide (l : Launch) (g : En) (o r : Nat) (A : Nat → Nat) (x1 y1 : Nat) (q : Nat → Rat) (k t : Nat) (hO : OK x1 y1 q) (hk : k < 4) (ht : t ≤ slen x1 y1 k) (hg : gab q k = false) : PM l yX1_endingSide cX1_endingSide 8 (some FieldType.int) { frames := 4, cells := 15, slots := 30, locals := 108 } g [.ref o, .int (nI k), .long (lN t)] (fun H => RP g o r A x1 y1 q H) 15 30 (rI (enp x1 y1 q k t 4)) := by
  refine PM.of (by decide) (Nat.le_of_ble_eq_true rfl) (fun p e s m below meth c ls X hG hl => ?_)
  obtain ⟨hP, hF⟩ := hG
  have hq := hO.2.2.1
  have hop := opp_lt k
  have hok := enp_ok x1 y1 q k t
  have L4 : ∀ (nr : Nat) (H : Heap) (ls : Array Slot), hxt s.heap H → PP g [fq nr (lim x1 y1 q k t (enp x1 y1 q k t 4)), ob o x1 y1 r, ar g r A] H → RF g A q H → lv_has ls 8 [(6, .int (nI 4)), (4, .int (nI (enp x1 y1 q k t 4))), (5, .ref nr), (0, .ref o), (1, .int (nI k)), (2, .long (lN t))] → W p l e { frames := 4, cells := 15, slots := 30, locals := 108 } s m ([.ref o, .int (nI k), .long (lN t)] : List Value).toArray below meth c H [] 15 30 (MQ below (pQ (rI (enp x1 y1 q k t 4))) ([.ref o, .int (nI k), .long (lN t)] : List Value).toArray s 15 30 (fun q => s.heap.size ≤ q)) (F0 m 19 ls []) := by
    intro nr H ls hX hP hF hl
    refine lv_iload X.1 X.2.1 dX1_endingSide_19 (lv_at hl 0 rfl) ?_
    refine lv_iconst (v := nI 4) X.1 X.2.1 dX1_endingSide_21 (by decide) ?_
    refine q_Ige X (by omega) (by omega) (tgt := 103) dX1_endingSide_22 (by decide) (fun hB101 => ?_) (fun hB101 => ?_)
    ·
      refine lv_iload X.1 X.2.1 dX1_endingSide_103 (lv_at hl 1 rfl) ?_
      exact p_iret X hX (rfl) ⟨by decide, by decide⟩ dX1_endingSide_105
    ·
      exact absurd hB101 (by decide)
  have L3 : ∀ (nr : Nat) (H : Heap) (ls : Array Slot), hxt s.heap H → PP g [fq nr (lim x1 y1 q k t (enp x1 y1 q k t 3)), ob o x1 y1 r, ar g r A] H → RF g A q H → lv_has ls 8 [(6, .int (nI 3)), (4, .int (nI (enp x1 y1 q k t 3))), (5, .ref nr), (0, .ref o), (1, .int (nI k)), (2, .long (lN t))] → W p l e { frames := 4, cells := 15, slots := 30, locals := 108 } s m ([.ref o, .int (nI k), .long (lN t)] : List Value).toArray below meth c H [] 12 24 (MQ below (pQ (rI (enp x1 y1 q k t 4))) ([.ref o, .int (nI k), .long (lN t)] : List Value).toArray s 15 30 (fun q => s.heap.size ≤ q)) (F0 m 19 ls []) := by
    intro nr H ls hX hP hF hl
    refine lv_iload X.1 X.2.1 dX1_endingSide_19 (lv_at hl 0 rfl) ?_
    refine lv_iconst (v := nI 4) X.1 X.2.1 dX1_endingSide_21 (by decide) ?_
    obtain ⟨hc, hc2⟩ := hok 3 (by decide)
    have bc := bd_lim hO hk hc ht hg hc2
    refine q_Ige X (by omega) (by omega) (tgt := 103) dX1_endingSide_22 (by decide) (fun hB101 => ?_) (fun hB101 => ?_)
    ·
      exact absurd hB101 (by decide)
    ·
      refine lv_iload X.1 X.2.1 dX1_endingSide_25 (lv_at hl 0 rfl) ?_
      refine lv_iload_n X.1 X.2.1 dX1_endingSide_27 rfl (lv_at hl 4 rfl) ?_
      refine q_Ieq X (by omega) (by omega) (tgt := 97) dX1_endingSide_28 (by decide) (fun hB102 => ?_) (fun hB102 => ?_)
      ·
        refine lv_iinc (v := nI (3 + 1)) (lv' := [(6, .int (nI (3 + 1))), (4, .int (nI (enp x1 y1 q k t 3))), (5, .ref nr), (0, .ref o), (1, .int (nI k)), (2, .long (lN t))]) X.1 X.2.1 dX1_endingSide_97 hl (k := 0) rfl (nI_1 _) (by decide) rfl (fun ls hl => ?_)
        refine lv_goto (tgt := 19) X.1 X.2.1 dX1_endingSide_100 (by decide) ?_
        refine W.widen (k := 15) (n := 30) (by decide) (by decide) ?_
        have e9 : enp x1 y1 q k t 4 = enp x1 y1 q k t 3 := enp_no (Or.inl hB102)
        exact L4 nr _ ls hX (by rw [e9]; exact hP.sub [0, 1, 2] rfl) hF (by rw [e9]; exact lv_sub hl [0, 1, 2, 3, 4, 5] rfl)
      ·
        refine lv_iload X.1 X.2.1 dX1_endingSide_31 (lv_at hl 0 rfl) ?_
        refine lv_iload_n X.1 X.2.1 dX1_endingSide_33 rfl (lv_at hl 4 rfl) ?_
        refine p_callS (As := [.int (nI k)]) (rest := [.int (nI 3)]) X (c_X1_opposite l g k hk) ⟨mw_321, mw_322, mw_38, mw_323⟩ sgX1_opposite ⟨rfl, rfl, ⟨by decide, by decide⟩, by decide, by decide⟩ (trivial) hX.1 rfl hl.1 rfl (Nat.le_of_ble_eq_true rfl) dX1_endingSide_34 (fun v H103 hk104 hp => ?_)
        obtain rfl := hp
        have hX := hX.tr hk104
        have hP := PP.ext hP hk104
        have hF := RF.ext hF hk104
        refine W.eq (g2 := F0 m 37 ls [.int (nI (opp k)), .int (nI 3)]) rfl ?_
        refine q_Ieq X (by omega) (by omega) (tgt := 97) dX1_endingSide_37 (by decide) (fun hB105 => ?_) (fun hB105 => ?_)
        ·
          refine lv_iinc (v := nI (3 + 1)) (lv' := [(6, .int (nI (3 + 1))), (4, .int (nI (enp x1 y1 q k t 3))), (5, .ref nr), (0, .ref o), (1, .int (nI k)), (2, .long (lN t))]) X.1 X.2.1 dX1_endingSide_97 hl (k := 0) rfl (nI_1 _) (by decide) rfl (fun ls hl => ?_)
          refine lv_goto (tgt := 19) X.1 X.2.1 dX1_endingSide_100 (by decide) ?_
          refine W.widen (k := 15) (n := 30) (by decide) (by decide) ?_
          have e9 : enp x1 y1 q k t 4 = enp x1 y1 q k t 3 := enp_no (Or.inr (Or.inl hB105))
          exact L4 nr _ ls hX (by rw [e9]; exact hP.sub [0, 1, 2] rfl) hF (by rw [e9]; exact lv_sub hl [0, 1, 2, 3, 4, 5] rfl)
        ·
          refine lv_aload_n X.1 X.2.1 dX1_endingSide_40 rfl (lv_at hl 3 rfl) ?_
          refine lv_iload X.1 X.2.1 dX1_endingSide_41 (lv_at hl 0 rfl) ?_
          refine p_callV (C := RX1) (b := o) (As := [.int (nI 3)]) (rest := []) X (c_X1_isGable l g o r A x1 y1 q 3 (by decide) (hq 3 (by decide))) ⟨mw_220, mw_222, mw_3, mw_38, mw_223⟩ sgX1_isGable ⟨rfl, rfl, ⟨by decide, by decide⟩, by decide, by decide⟩ (hP.at 1 rfl) rfl rfl (RP.of hP [1, 2] rfl hF) hX.1 rfl hl.1 rfl (Nat.le_of_ble_eq_true rfl) dX1_endingSide_43 (fun v H106 hk107 hp => ?_)
          obtain rfl := hp
          have hX := hX.tr hk107
          have hP := PP.ext hP hk107
          have hF := RF.ext hF hk107
          refine W.eq (g2 := F0 m 46 ls [.int (bI (gab q 3))]) rfl ?_
          refine q_Beq X (tgt := 52) dX1_endingSide_46 (by decide) (fun hB108 => ?_) (fun hB108 => ?_)
          ·
            refine lv_aload_n X.1 X.2.1 dX1_endingSide_52 rfl (lv_at hl 3 rfl) ?_
            refine lv_iload X.1 X.2.1 dX1_endingSide_53 (lv_at hl 0 rfl) ?_
            refine lv_iload_n X.1 X.2.1 dX1_endingSide_55 rfl (lv_at hl 4 rfl) ?_
            refine lv_lload_n X.1 X.2.1 dX1_endingSide_56 rfl (lv_at hl 5 rfl) ?_
            have bn := bd_lim hO hk (show 3 < 4 by decide) ht hg (Or.inr hB108)
            refine p_callV (C := RX1) (b := o) (As := [.int (nI 3), .int (nI k), .long (lN t)]) (rest := []) X (c_X1_limitBy l g o r A x1 y1 q 3 k t hO (by decide) hk ht hg (Or.inr hB108)) ⟨mw_324, mw_326, mw_14, mw_38, mw_327⟩ sgX1_limitBy ⟨rfl, rfl, ⟨by decide, by decide⟩, by decide, by decide⟩ (hP.at 1 rfl) rfl rfl (RP.of hP [1, 2] rfl hF) hX.1 rfl hl.1 rfl (Nat.le_of_ble_eq_true rfl) dX1_endingSide_57 (fun v H109 hk110 hp => ?_)
            obtain ⟨r111, rfl, hr111⟩ := hp
            have hX := hX.tr hk110
            have hP := PP.ext hP hk110
            have hF := RF.ext hF hk110
            have hP := PP.cons hr111 hP
            refine W.eq (g2 := F0 m 60 ls [.ref r111]) rfl ?_
            refine lv_astore (lv' := [(7, .ref r111), (6, .int (nI 3)), (4, .int (nI (enp x1 y1 q k t 3))), (5, .ref nr), (0, .ref o), (1, .int (nI k)), (2, .long (lN t))]) X.1 X.2.1 dX1_endingSide_60 hl (by decide) rfl (fun ls hl => ?_)
            refine lv_aload X.1 X.2.1 dX1_endingSide_62 (lv_at hl 0 rfl) ?_
            refine lv_aload X.1 X.2.1 dX1_endingSide_64 (lv_at hl 3 rfl) ?_
            refine p_callV (C := RX0) (b := r111) (As := [.ref nr]) (rest := []) X (b_less l g _ _ bn bc (by decide) (by decide)) ⟨mw_267, mw_268, mw_269, mw_39, mw_270⟩ sgX0_isLess ⟨rfl, rfl, ⟨by decide, by decide⟩, by decide, by decide⟩ (hP.at 0 rfl) rfl rfl (hP.sub [0, 1] rfl) hX.1 rfl hl.1 rfl (Nat.le_of_ble_eq_true rfl) dX1_endingSide_66 (fun v H112 hk113 hp => ?_)
            obtain rfl := hp
            have hX := hX.tr hk113
            have hP := PP.ext hP hk113
            have hF := RF.ext hF hk113
            refine W.eq (g2 := F0 m 69 ls [.int (bI (decide (lim x1 y1 q k t 3 < lim x1 y1 q k t (enp x1 y1 q k t 3))))]) rfl ?_
            refine q_Bne X (tgt := 89) dX1_endingSide_69 (by decide) (fun hB114 => ?_) (fun hB114 => ?_)
            ·
              refine lv_iload X.1 X.2.1 dX1_endingSide_89 (lv_at hl 1 rfl) ?_
              refine lv_istore (lv' := [(4, .int (nI 3)), (7, .ref r111), (6, .int (nI 3)), (5, .ref nr), (0, .ref o), (1, .int (nI k)), (2, .long (lN t))]) X.1 X.2.1 dX1_endingSide_91 hl (by decide) rfl (fun ls hl => ?_)
              refine lv_aload X.1 X.2.1 dX1_endingSide_93 (lv_at hl 1 rfl) ?_
              refine lv_astore (lv' := [(5, .ref r111), (4, .int (nI 3)), (7, .ref r111), (6, .int (nI 3)), (0, .ref o), (1, .int (nI k)), (2, .long (lN t))]) X.1 X.2.1 dX1_endingSide_95 hl (by decide) rfl (fun ls hl => ?_)
              refine lv_iinc (v := nI (3 + 1)) (lv' := [(6, .int (nI (3 + 1))), (5, .ref r111), (4, .int (nI 3)), (7, .ref r111), (0, .ref o), (1, .int (nI k)), (2, .long (lN t))]) X.1 X.2.1 dX1_endingSide_97 hl (k := 3) rfl (nI_1 _) (by decide) rfl (fun ls hl => ?_)
              refine lv_goto (tgt := 19) X.1 X.2.1 dX1_endingSide_100 (by decide) ?_
              have e9 : enp x1 y1 q k t 4 = 3 := enp_yes hB102 hB105 hB108 (Or.inl (of_decide_eq_true hB114))
              exact L4 r111 _ ls hX (by rw [e9]; exact hP.sub [0, 2, 3] rfl) hF (by rw [e9]; exact lv_sub hl [0, 2, 1, 4, 5, 6] rfl)
            ·
              refine lv_aload X.1 X.2.1 dX1_endingSide_72 (lv_at hl 0 rfl) ?_
              refine lv_aload X.1 X.2.1 dX1_endingSide_74 (lv_at hl 3 rfl) ?_
              refine p_callV (C := RX0) (b := r111) (As := [.ref nr]) (rest := []) X (b_same l g _ _ bn bc (by decide) (by decide) (by decide) (by decide)) ⟨mw_204, mw_205, mw_206, mw_39, mw_207⟩ sgX0_isSame ⟨rfl, rfl, ⟨by decide, by decide⟩, by decide, by decide⟩ (hP.at 0 rfl) rfl rfl (hP.sub [0, 1] rfl) hX.1 rfl hl.1 rfl (Nat.le_of_ble_eq_true rfl) dX1_endingSide_76 (fun v H115 hk116 hp => ?_)
              obtain rfl := hp
              have hX := hX.tr hk116
              have hP := PP.ext hP hk116
              have hF := RF.ext hF hk116
              refine W.eq (g2 := F0 m 79 ls [.int (bI (decide (lim x1 y1 q k t 3 = lim x1 y1 q k t (enp x1 y1 q k t 3))))]) rfl ?_
              refine q_Beq X (tgt := 97) dX1_endingSide_79 (by decide) (fun hB117 => ?_) (fun hB117 => ?_)
              ·
                refine lv_iinc (v := nI (3 + 1)) (lv' := [(6, .int (nI (3 + 1))), (7, .ref r111), (4, .int (nI (enp x1 y1 q k t 3))), (5, .ref nr), (0, .ref o), (1, .int (nI k)), (2, .long (lN t))]) X.1 X.2.1 dX1_endingSide_97 hl (k := 1) rfl (nI_1 _) (by decide) rfl (fun ls hl => ?_)
                refine lv_goto (tgt := 19) X.1 X.2.1 dX1_endingSide_100 (by decide) ?_
                have e9 : enp x1 y1 q k t 4 = enp x1 y1 q k t 3 := enp_no (Or.inr (Or.inr (Or.inr ⟨of_decide_eq_false hB114, fun h9 => absurd h9 (of_decide_eq_false hB117)⟩)))
                exact L4 nr _ ls hX (by rw [e9]; exact hP.sub [1, 2, 3] rfl) hF (by rw [e9]; exact lv_sub hl [0, 2, 3, 4, 5, 6] rfl)
              ·
                refine lv_iload X.1 X.2.1 dX1_endingSide_82 (lv_at hl 1 rfl) ?_
                refine lv_iload X.1 X.2.1 dX1_endingSide_84 (lv_at hl 2 rfl) ?_
                refine q_Ige X (by omega) (by omega) (tgt := 97) dX1_endingSide_86 (by decide) (fun hB118 => ?_) (fun hB118 => ?_)
                ·
                  refine lv_iinc (v := nI (3 + 1)) (lv' := [(6, .int (nI (3 + 1))), (7, .ref r111), (4, .int (nI (enp x1 y1 q k t 3))), (5, .ref nr), (0, .ref o), (1, .int (nI k)), (2, .long (lN t))]) X.1 X.2.1 dX1_endingSide_97 hl (k := 1) rfl (nI_1 _) (by decide) rfl (fun ls hl => ?_)
                  refine lv_goto (tgt := 19) X.1 X.2.1 dX1_endingSide_100 (by decide) ?_
                  have e9 : enp x1 y1 q k t 4 = enp x1 y1 q k t 3 := enp_no (Or.inr (Or.inr (Or.inr ⟨of_decide_eq_false hB114, fun _ => hB118⟩)))
                  exact L4 nr _ ls hX (by rw [e9]; exact hP.sub [1, 2, 3] rfl) hF (by rw [e9]; exact lv_sub hl [0, 2, 3, 4, 5, 6] rfl)
                ·
                  refine lv_iload X.1 X.2.1 dX1_endingSide_89 (lv_at hl 1 rfl) ?_
                  refine lv_istore (lv' := [(4, .int (nI 3)), (7, .ref r111), (6, .int (nI 3)), (5, .ref nr), (0, .ref o), (1, .int (nI k)), (2, .long (lN t))]) X.1 X.2.1 dX1_endingSide_91 hl (by decide) rfl (fun ls hl => ?_)
                  refine lv_aload X.1 X.2.1 dX1_endingSide_93 (lv_at hl 1 rfl) ?_
                  refine lv_astore (lv' := [(5, .ref r111), (4, .int (nI 3)), (7, .ref r111), (6, .int (nI 3)), (0, .ref o), (1, .int (nI k)), (2, .long (lN t))]) X.1 X.2.1 dX1_endingSide_95 hl (by decide) rfl (fun ls hl => ?_)
                  refine lv_iinc (v := nI (3 + 1)) (lv' := [(6, .int (nI (3 + 1))), (5, .ref r111), (4, .int (nI 3)), (7, .ref r111), (0, .ref o), (1, .int (nI k)), (2, .long (lN t))]) X.1 X.2.1 dX1_endingSide_97 hl (k := 3) rfl (nI_1 _) (by decide) rfl (fun ls hl => ?_)
                  refine lv_goto (tgt := 19) X.1 X.2.1 dX1_endingSide_100 (by decide) ?_
                  have e9 : enp x1 y1 q k t 4 = 3 := enp_yes hB102 hB105 hB108 (Or.inr ⟨of_decide_eq_true hB117, hB118⟩)
                  exact L4 r111 _ ls hX (by rw [e9]; exact hP.sub [0, 2, 3] rfl) hF (by rw [e9]; exact lv_sub hl [0, 2, 1, 4, 5, 6] rfl)
          ·
            refine lv_goto (tgt := 97) X.1 X.2.1 dX1_endingSide_49 (by decide) ?_
            refine lv_iinc (v := nI (3 + 1)) (lv' := [(6, .int (nI (3 + 1))), (4, .int (nI (enp x1 y1 q k t 3))), (5, .ref nr), (0, .ref o), (1, .int (nI k)), (2, .long (lN t))]) X.1 X.2.1 dX1_endingSide_97 hl (k := 0) rfl (nI_1 _) (by decide) rfl (fun ls hl => ?_)
            refine lv_goto (tgt := 19) X.1 X.2.1 dX1_endingSide_100 (by decide) ?_
            refine W.widen (k := 15) (n := 30) (by decide) (by decide) ?_
            have e9 : enp x1 y1 q k t 4 = enp x1 y1 q k t 3 := enp_no (Or.inr (Or.inr (Or.inl hB108)))
            exact L4 nr _ ls hX (by rw [e9]; exact hP.sub [0, 1, 2] rfl) hF (by rw [e9]; exact lv_sub hl [0, 1, 2, 3, 4, 5] rfl)
  have L2 : ∀ (nr : Nat) (H : Heap) (ls : Array Slot), hxt s.heap H → PP g [fq nr (lim x1 y1 q k t (enp x1 y1 q k t 2)), ob o x1 y1 r, ar g r A] H → RF g A q H → lv_has ls 8 [(6, .int (nI 2)), (4, .int (nI (enp x1 y1 q k t 2))), (5, .ref nr), (0, .ref o), (1, .int (nI k)), (2, .long (lN t))] → W p l e { frames := 4, cells := 15, slots := 30, locals := 108 } s m ([.ref o, .int (nI k), .long (lN t)] : List Value).toArray below meth c H [] 9 18 (MQ below (pQ (rI (enp x1 y1 q k t 4))) ([.ref o, .int (nI k), .long (lN t)] : List Value).toArray s 15 30 (fun q => s.heap.size ≤ q)) (F0 m 19 ls []) := by
    intro nr H ls hX hP hF hl
    refine lv_iload X.1 X.2.1 dX1_endingSide_19 (lv_at hl 0 rfl) ?_
    refine lv_iconst (v := nI 4) X.1 X.2.1 dX1_endingSide_21 (by decide) ?_
    obtain ⟨hc, hc2⟩ := hok 2 (by decide)
    have bc := bd_lim hO hk hc ht hg hc2
    refine q_Ige X (by omega) (by omega) (tgt := 103) dX1_endingSide_22 (by decide) (fun hB101 => ?_) (fun hB101 => ?_)
    ·
      exact absurd hB101 (by decide)
    ·
      refine lv_iload X.1 X.2.1 dX1_endingSide_25 (lv_at hl 0 rfl) ?_
      refine lv_iload_n X.1 X.2.1 dX1_endingSide_27 rfl (lv_at hl 4 rfl) ?_
      refine q_Ieq X (by omega) (by omega) (tgt := 97) dX1_endingSide_28 (by decide) (fun hB102 => ?_) (fun hB102 => ?_)
      ·
        refine lv_iinc (v := nI (2 + 1)) (lv' := [(6, .int (nI (2 + 1))), (4, .int (nI (enp x1 y1 q k t 2))), (5, .ref nr), (0, .ref o), (1, .int (nI k)), (2, .long (lN t))]) X.1 X.2.1 dX1_endingSide_97 hl (k := 0) rfl (nI_1 _) (by decide) rfl (fun ls hl => ?_)
        refine lv_goto (tgt := 19) X.1 X.2.1 dX1_endingSide_100 (by decide) ?_
        refine W.widen (k := 12) (n := 24) (by decide) (by decide) ?_
        have e9 : enp x1 y1 q k t 3 = enp x1 y1 q k t 2 := enp_no (Or.inl hB102)
        exact L3 nr _ ls hX (by rw [e9]; exact hP.sub [0, 1, 2] rfl) hF (by rw [e9]; exact lv_sub hl [0, 1, 2, 3, 4, 5] rfl)
      ·
        refine lv_iload X.1 X.2.1 dX1_endingSide_31 (lv_at hl 0 rfl) ?_
        refine lv_iload_n X.1 X.2.1 dX1_endingSide_33 rfl (lv_at hl 4 rfl) ?_
        refine p_callS (As := [.int (nI k)]) (rest := [.int (nI 2)]) X (c_X1_opposite l g k hk) ⟨mw_321, mw_322, mw_38, mw_323⟩ sgX1_opposite ⟨rfl, rfl, ⟨by decide, by decide⟩, by decide, by decide⟩ (trivial) hX.1 rfl hl.1 rfl (Nat.le_of_ble_eq_true rfl) dX1_endingSide_34 (fun v H103 hk104 hp => ?_)
        obtain rfl := hp
        have hX := hX.tr hk104
        have hP := PP.ext hP hk104
        have hF := RF.ext hF hk104
        refine W.eq (g2 := F0 m 37 ls [.int (nI (opp k)), .int (nI 2)]) rfl ?_
        refine q_Ieq X (by omega) (by omega) (tgt := 97) dX1_endingSide_37 (by decide) (fun hB105 => ?_) (fun hB105 => ?_)
        ·
          refine lv_iinc (v := nI (2 + 1)) (lv' := [(6, .int (nI (2 + 1))), (4, .int (nI (enp x1 y1 q k t 2))), (5, .ref nr), (0, .ref o), (1, .int (nI k)), (2, .long (lN t))]) X.1 X.2.1 dX1_endingSide_97 hl (k := 0) rfl (nI_1 _) (by decide) rfl (fun ls hl => ?_)
          refine lv_goto (tgt := 19) X.1 X.2.1 dX1_endingSide_100 (by decide) ?_
          refine W.widen (k := 12) (n := 24) (by decide) (by decide) ?_
          have e9 : enp x1 y1 q k t 3 = enp x1 y1 q k t 2 := enp_no (Or.inr (Or.inl hB105))
          exact L3 nr _ ls hX (by rw [e9]; exact hP.sub [0, 1, 2] rfl) hF (by rw [e9]; exact lv_sub hl [0, 1, 2, 3, 4, 5] rfl)
        ·
          refine lv_aload_n X.1 X.2.1 dX1_endingSide_40 rfl (lv_at hl 3 rfl) ?_
          refine lv_iload X.1 X.2.1 dX1_endingSide_41 (lv_at hl 0 rfl) ?_
          refine p_callV (C := RX1) (b := o) (As := [.int (nI 2)]) (rest := []) X (c_X1_isGable l g o r A x1 y1 q 2 (by decide) (hq 2 (by decide))) ⟨mw_220, mw_222, mw_3, mw_38, mw_223⟩ sgX1_isGable ⟨rfl, rfl, ⟨by decide, by decide⟩, by decide, by decide⟩ (hP.at 1 rfl) rfl rfl (RP.of hP [1, 2] rfl hF) hX.1 rfl hl.1 rfl (Nat.le_of_ble_eq_true rfl) dX1_endingSide_43 (fun v H106 hk107 hp => ?_)
          obtain rfl := hp
          have hX := hX.tr hk107
          have hP := PP.ext hP hk107
          have hF := RF.ext hF hk107
          refine W.eq (g2 := F0 m 46 ls [.int (bI (gab q 2))]) rfl ?_
          refine q_Beq X (tgt := 52) dX1_endingSide_46 (by decide) (fun hB108 => ?_) (fun hB108 => ?_)
          ·
            refine lv_aload_n X.1 X.2.1 dX1_endingSide_52 rfl (lv_at hl 3 rfl) ?_
            refine lv_iload X.1 X.2.1 dX1_endingSide_53 (lv_at hl 0 rfl) ?_
            refine lv_iload_n X.1 X.2.1 dX1_endingSide_55 rfl (lv_at hl 4 rfl) ?_
            refine lv_lload_n X.1 X.2.1 dX1_endingSide_56 rfl (lv_at hl 5 rfl) ?_
            have bn := bd_lim hO hk (show 2 < 4 by decide) ht hg (Or.inr hB108)
            refine p_callV (C := RX1) (b := o) (As := [.int (nI 2), .int (nI k), .long (lN t)]) (rest := []) X (c_X1_limitBy l g o r A x1 y1 q 2 k t hO (by decide) hk ht hg (Or.inr hB108)) ⟨mw_324, mw_326, mw_14, mw_38, mw_327⟩ sgX1_limitBy ⟨rfl, rfl, ⟨by decide, by decide⟩, by decide, by decide⟩ (hP.at 1 rfl) rfl rfl (RP.of hP [1, 2] rfl hF) hX.1 rfl hl.1 rfl (Nat.le_of_ble_eq_true rfl) dX1_endingSide_57 (fun v H109 hk110 hp => ?_)
            obtain ⟨r111, rfl, hr111⟩ := hp
            have hX := hX.tr hk110
            have hP := PP.ext hP hk110
            have hF := RF.ext hF hk110
            have hP := PP.cons hr111 hP
            refine W.eq (g2 := F0 m 60 ls [.ref r111]) rfl ?_
            refine lv_astore (lv' := [(7, .ref r111), (6, .int (nI 2)), (4, .int (nI (enp x1 y1 q k t 2))), (5, .ref nr), (0, .ref o), (1, .int (nI k)), (2, .long (lN t))]) X.1 X.2.1 dX1_endingSide_60 hl (by decide) rfl (fun ls hl => ?_)
            refine lv_aload X.1 X.2.1 dX1_endingSide_62 (lv_at hl 0 rfl) ?_
            refine lv_aload X.1 X.2.1 dX1_endingSide_64 (lv_at hl 3 rfl) ?_
            refine p_callV (C := RX0) (b := r111) (As := [.ref nr]) (rest := []) X (b_less l g _ _ bn bc (by decide) (by decide)) ⟨mw_267, mw_268, mw_269, mw_39, mw_270⟩ sgX0_isLess ⟨rfl, rfl, ⟨by decide, by decide⟩, by decide, by decide⟩ (hP.at 0 rfl) rfl rfl (hP.sub [0, 1] rfl) hX.1 rfl hl.1 rfl (Nat.le_of_ble_eq_true rfl) dX1_endingSide_66 (fun v H112 hk113 hp => ?_)
            obtain rfl := hp
            have hX := hX.tr hk113
            have hP := PP.ext hP hk113
            have hF := RF.ext hF hk113
            refine W.eq (g2 := F0 m 69 ls [.int (bI (decide (lim x1 y1 q k t 2 < lim x1 y1 q k t (enp x1 y1 q k t 2))))]) rfl ?_
            refine q_Bne X (tgt := 89) dX1_endingSide_69 (by decide) (fun hB114 => ?_) (fun hB114 => ?_)
            ·
              refine lv_iload X.1 X.2.1 dX1_endingSide_89 (lv_at hl 1 rfl) ?_
              refine lv_istore (lv' := [(4, .int (nI 2)), (7, .ref r111), (6, .int (nI 2)), (5, .ref nr), (0, .ref o), (1, .int (nI k)), (2, .long (lN t))]) X.1 X.2.1 dX1_endingSide_91 hl (by decide) rfl (fun ls hl => ?_)
              refine lv_aload X.1 X.2.1 dX1_endingSide_93 (lv_at hl 1 rfl) ?_
              refine lv_astore (lv' := [(5, .ref r111), (4, .int (nI 2)), (7, .ref r111), (6, .int (nI 2)), (0, .ref o), (1, .int (nI k)), (2, .long (lN t))]) X.1 X.2.1 dX1_endingSide_95 hl (by decide) rfl (fun ls hl => ?_)
              refine lv_iinc (v := nI (2 + 1)) (lv' := [(6, .int (nI (2 + 1))), (5, .ref r111), (4, .int (nI 2)), (7, .ref r111), (0, .ref o), (1, .int (nI k)), (2, .long (lN t))]) X.1 X.2.1 dX1_endingSide_97 hl (k := 3) rfl (nI_1 _) (by decide) rfl (fun ls hl => ?_)
              refine lv_goto (tgt := 19) X.1 X.2.1 dX1_endingSide_100 (by decide) ?_
              have e9 : enp x1 y1 q k t 3 = 2 := enp_yes hB102 hB105 hB108 (Or.inl (of_decide_eq_true hB114))
              exact L3 r111 _ ls hX (by rw [e9]; exact hP.sub [0, 2, 3] rfl) hF (by rw [e9]; exact lv_sub hl [0, 2, 1, 4, 5, 6] rfl)
            ·
              refine lv_aload X.1 X.2.1 dX1_endingSide_72 (lv_at hl 0 rfl) ?_
              refine lv_aload X.1 X.2.1 dX1_endingSide_74 (lv_at hl 3 rfl) ?_
              refine p_callV (C := RX0) (b := r111) (As := [.ref nr]) (rest := []) X (b_same l g _ _ bn bc (by decide) (by decide) (by decide) (by decide)) ⟨mw_204, mw_205, mw_206, mw_39, mw_207⟩ sgX0_isSame ⟨rfl, rfl, ⟨by decide, by decide⟩, by decide, by decide⟩ (hP.at 0 rfl) rfl rfl (hP.sub [0, 1] rfl) hX.1 rfl hl.1 rfl (Nat.le_of_ble_eq_true rfl) dX1_endingSide_76 (fun v H115 hk116 hp => ?_)
              obtain rfl := hp
              have hX := hX.tr hk116
              have hP := PP.ext hP hk116
              have hF := RF.ext hF hk116
              refine W.eq (g2 := F0 m 79 ls [.int (bI (decide (lim x1 y1 q k t 2 = lim x1 y1 q k t (enp x1 y1 q k t 2))))]) rfl ?_
              refine q_Beq X (tgt := 97) dX1_endingSide_79 (by decide) (fun hB117 => ?_) (fun hB117 => ?_)
              ·
                refine lv_iinc (v := nI (2 + 1)) (lv' := [(6, .int (nI (2 + 1))), (7, .ref r111), (4, .int (nI (enp x1 y1 q k t 2))), (5, .ref nr), (0, .ref o), (1, .int (nI k)), (2, .long (lN t))]) X.1 X.2.1 dX1_endingSide_97 hl (k := 1) rfl (nI_1 _) (by decide) rfl (fun ls hl => ?_)
                refine lv_goto (tgt := 19) X.1 X.2.1 dX1_endingSide_100 (by decide) ?_
                have e9 : enp x1 y1 q k t 3 = enp x1 y1 q k t 2 := enp_no (Or.inr (Or.inr (Or.inr ⟨of_decide_eq_false hB114, fun h9 => absurd h9 (of_decide_eq_false hB117)⟩)))
                exact L3 nr _ ls hX (by rw [e9]; exact hP.sub [1, 2, 3] rfl) hF (by rw [e9]; exact lv_sub hl [0, 2, 3, 4, 5, 6] rfl)
              ·
                refine lv_iload X.1 X.2.1 dX1_endingSide_82 (lv_at hl 1 rfl) ?_
                refine lv_iload X.1 X.2.1 dX1_endingSide_84 (lv_at hl 2 rfl) ?_
                refine q_Ige X (by omega) (by omega) (tgt := 97) dX1_endingSide_86 (by decide) (fun hB118 => ?_) (fun hB118 => ?_)
                ·
                  refine lv_iinc (v := nI (2 + 1)) (lv' := [(6, .int (nI (2 + 1))), (7, .ref r111), (4, .int (nI (enp x1 y1 q k t 2))), (5, .ref nr), (0, .ref o), (1, .int (nI k)), (2, .long (lN t))]) X.1 X.2.1 dX1_endingSide_97 hl (k := 1) rfl (nI_1 _) (by decide) rfl (fun ls hl => ?_)
                  refine lv_goto (tgt := 19) X.1 X.2.1 dX1_endingSide_100 (by decide) ?_
                  have e9 : enp x1 y1 q k t 3 = enp x1 y1 q k t 2 := enp_no (Or.inr (Or.inr (Or.inr ⟨of_decide_eq_false hB114, fun _ => hB118⟩)))
                  exact L3 nr _ ls hX (by rw [e9]; exact hP.sub [1, 2, 3] rfl) hF (by rw [e9]; exact lv_sub hl [0, 2, 3, 4, 5, 6] rfl)
                ·
                  refine lv_iload X.1 X.2.1 dX1_endingSide_89 (lv_at hl 1 rfl) ?_
                  refine lv_istore (lv' := [(4, .int (nI 2)), (7, .ref r111), (6, .int (nI 2)), (5, .ref nr), (0, .ref o), (1, .int (nI k)), (2, .long (lN t))]) X.1 X.2.1 dX1_endingSide_91 hl (by decide) rfl (fun ls hl => ?_)
                  refine lv_aload X.1 X.2.1 dX1_endingSide_93 (lv_at hl 1 rfl) ?_
                  refine lv_astore (lv' := [(5, .ref r111), (4, .int (nI 2)), (7, .ref r111), (6, .int (nI 2)), (0, .ref o), (1, .int (nI k)), (2, .long (lN t))]) X.1 X.2.1 dX1_endingSide_95 hl (by decide) rfl (fun ls hl => ?_)
                  refine lv_iinc (v := nI (2 + 1)) (lv' := [(6, .int (nI (2 + 1))), (5, .ref r111), (4, .int (nI 2)), (7, .ref r111), (0, .ref o), (1, .int (nI k)), (2, .long (lN t))]) X.1 X.2.1 dX1_endingSide_97 hl (k := 3) rfl (nI_1 _) (by decide) rfl (fun ls hl => ?_)
                  refine lv_goto (tgt := 19) X.1 X.2.1 dX1_endingSide_100 (by decide) ?_
                  have e9 : enp x1 y1 q k t 3 = 2 := enp_yes hB102 hB105 hB108 (Or.inr ⟨of_decide_eq_true hB117, hB118⟩)
                  exact L3 r111 _ ls hX (by rw [e9]; exact hP.sub [0, 2, 3] rfl) hF (by rw [e9]; exact lv_sub hl [0, 2, 1, 4, 5, 6] rfl)
          ·
            refine lv_goto (tgt := 97) X.1 X.2.1 dX1_endingSide_49 (by decide) ?_
            refine lv_iinc (v := nI (2 + 1)) (lv' := [(6, .int (nI (2 + 1))), (4, .int (nI (enp x1 y1 q k t 2))), (5, .ref nr), (0, .ref o), (1, .int (nI k)), (2, .long (lN t))]) X.1 X.2.1 dX1_endingSide_97 hl (k := 0) rfl (nI_1 _) (by decide) rfl (fun ls hl => ?_)
            refine lv_goto (tgt := 19) X.1 X.2.1 dX1_endingSide_100 (by decide) ?_
            refine W.widen (k := 12) (n := 24) (by decide) (by decide) ?_
            have e9 : enp x1 y1 q k t 3 = enp x1 y1 q k t 2 := enp_no (Or.inr (Or.inr (Or.inl hB108)))
            exact L3 nr _ ls hX (by rw [e9]; exact hP.sub [0, 1, 2] rfl) hF (by rw [e9]; exact lv_sub hl [0, 1, 2, 3, 4, 5] rfl)
  have L1 : ∀ (nr : Nat) (H : Heap) (ls : Array Slot), hxt s.heap H → PP g [fq nr (lim x1 y1 q k t (enp x1 y1 q k t 1)), ob o x1 y1 r, ar g r A] H → RF g A q H → lv_has ls 8 [(6, .int (nI 1)), (4, .int (nI (enp x1 y1 q k t 1))), (5, .ref nr), (0, .ref o), (1, .int (nI k)), (2, .long (lN t))] → W p l e { frames := 4, cells := 15, slots := 30, locals := 108 } s m ([.ref o, .int (nI k), .long (lN t)] : List Value).toArray below meth c H [] 6 12 (MQ below (pQ (rI (enp x1 y1 q k t 4))) ([.ref o, .int (nI k), .long (lN t)] : List Value).toArray s 15 30 (fun q => s.heap.size ≤ q)) (F0 m 19 ls []) := by
    intro nr H ls hX hP hF hl
    refine lv_iload X.1 X.2.1 dX1_endingSide_19 (lv_at hl 0 rfl) ?_
    refine lv_iconst (v := nI 4) X.1 X.2.1 dX1_endingSide_21 (by decide) ?_
    obtain ⟨hc, hc2⟩ := hok 1 (by decide)
    have bc := bd_lim hO hk hc ht hg hc2
    refine q_Ige X (by omega) (by omega) (tgt := 103) dX1_endingSide_22 (by decide) (fun hB101 => ?_) (fun hB101 => ?_)
    ·
      exact absurd hB101 (by decide)
    ·
      refine lv_iload X.1 X.2.1 dX1_endingSide_25 (lv_at hl 0 rfl) ?_
      refine lv_iload_n X.1 X.2.1 dX1_endingSide_27 rfl (lv_at hl 4 rfl) ?_
      refine q_Ieq X (by omega) (by omega) (tgt := 97) dX1_endingSide_28 (by decide) (fun hB102 => ?_) (fun hB102 => ?_)
      ·
        refine lv_iinc (v := nI (1 + 1)) (lv' := [(6, .int (nI (1 + 1))), (4, .int (nI (enp x1 y1 q k t 1))), (5, .ref nr), (0, .ref o), (1, .int (nI k)), (2, .long (lN t))]) X.1 X.2.1 dX1_endingSide_97 hl (k := 0) rfl (nI_1 _) (by decide) rfl (fun ls hl => ?_)
        refine lv_goto (tgt := 19) X.1 X.2.1 dX1_endingSide_100 (by decide) ?_
        refine W.widen (k := 9) (n := 18) (by decide) (by decide) ?_
        have e9 : enp x1 y1 q k t 2 = enp x1 y1 q k t 1 := enp_no (Or.inl hB102)
        exact L2 nr _ ls hX (by rw [e9]; exact hP.sub [0, 1, 2] rfl) hF (by rw [e9]; exact lv_sub hl [0, 1, 2, 3, 4, 5] rfl)
      ·
        refine lv_iload X.1 X.2.1 dX1_endingSide_31 (lv_at hl 0 rfl) ?_
        refine lv_iload_n X.1 X.2.1 dX1_endingSide_33 rfl (lv_at hl 4 rfl) ?_
        refine p_callS (As := [.int (nI k)]) (rest := [.int (nI 1)]) X (c_X1_opposite l g k hk) ⟨mw_321, mw_322, mw_38, mw_323⟩ sgX1_opposite ⟨rfl, rfl, ⟨by decide, by decide⟩, by decide, by decide⟩ (trivial) hX.1 rfl hl.1 rfl (Nat.le_of_ble_eq_true rfl) dX1_endingSide_34 (fun v H103 hk104 hp => ?_)
        obtain rfl := hp
        have hX := hX.tr hk104
        have hP := PP.ext hP hk104
        have hF := RF.ext hF hk104
        refine W.eq (g2 := F0 m 37 ls [.int (nI (opp k)), .int (nI 1)]) rfl ?_
        refine q_Ieq X (by omega) (by omega) (tgt := 97) dX1_endingSide_37 (by decide) (fun hB105 => ?_) (fun hB105 => ?_)
        ·
          refine lv_iinc (v := nI (1 + 1)) (lv' := [(6, .int (nI (1 + 1))), (4, .int (nI (enp x1 y1 q k t 1))), (5, .ref nr), (0, .ref o), (1, .int (nI k)), (2, .long (lN t))]) X.1 X.2.1 dX1_endingSide_97 hl (k := 0) rfl (nI_1 _) (by decide) rfl (fun ls hl => ?_)
          refine lv_goto (tgt := 19) X.1 X.2.1 dX1_endingSide_100 (by decide) ?_
          refine W.widen (k := 9) (n := 18) (by decide) (by decide) ?_
          have e9 : enp x1 y1 q k t 2 = enp x1 y1 q k t 1 := enp_no (Or.inr (Or.inl hB105))
          exact L2 nr _ ls hX (by rw [e9]; exact hP.sub [0, 1, 2] rfl) hF (by rw [e9]; exact lv_sub hl [0, 1, 2, 3, 4, 5] rfl)
        ·
          refine lv_aload_n X.1 X.2.1 dX1_endingSide_40 rfl (lv_at hl 3 rfl) ?_
          refine lv_iload X.1 X.2.1 dX1_endingSide_41 (lv_at hl 0 rfl) ?_
          refine p_callV (C := RX1) (b := o) (As := [.int (nI 1)]) (rest := []) X (c_X1_isGable l g o r A x1 y1 q 1 (by decide) (hq 1 (by decide))) ⟨mw_220, mw_222, mw_3, mw_38, mw_223⟩ sgX1_isGable ⟨rfl, rfl, ⟨by decide, by decide⟩, by decide, by decide⟩ (hP.at 1 rfl) rfl rfl (RP.of hP [1, 2] rfl hF) hX.1 rfl hl.1 rfl (Nat.le_of_ble_eq_true rfl) dX1_endingSide_43 (fun v H106 hk107 hp => ?_)
          obtain rfl := hp
          have hX := hX.tr hk107
          have hP := PP.ext hP hk107
          have hF := RF.ext hF hk107
          refine W.eq (g2 := F0 m 46 ls [.int (bI (gab q 1))]) rfl ?_
          refine q_Beq X (tgt := 52) dX1_endingSide_46 (by decide) (fun hB108 => ?_) (fun hB108 => ?_)
          ·
            refine lv_aload_n X.1 X.2.1 dX1_endingSide_52 rfl (lv_at hl 3 rfl) ?_
            refine lv_iload X.1 X.2.1 dX1_endingSide_53 (lv_at hl 0 rfl) ?_
            refine lv_iload_n X.1 X.2.1 dX1_endingSide_55 rfl (lv_at hl 4 rfl) ?_
            refine lv_lload_n X.1 X.2.1 dX1_endingSide_56 rfl (lv_at hl 5 rfl) ?_
            have bn := bd_lim hO hk (show 1 < 4 by decide) ht hg (Or.inr hB108)
            refine p_callV (C := RX1) (b := o) (As := [.int (nI 1), .int (nI k), .long (lN t)]) (rest := []) X (c_X1_limitBy l g o r A x1 y1 q 1 k t hO (by decide) hk ht hg (Or.inr hB108)) ⟨mw_324, mw_326, mw_14, mw_38, mw_327⟩ sgX1_limitBy ⟨rfl, rfl, ⟨by decide, by decide⟩, by decide, by decide⟩ (hP.at 1 rfl) rfl rfl (RP.of hP [1, 2] rfl hF) hX.1 rfl hl.1 rfl (Nat.le_of_ble_eq_true rfl) dX1_endingSide_57 (fun v H109 hk110 hp => ?_)
            obtain ⟨r111, rfl, hr111⟩ := hp
            have hX := hX.tr hk110
            have hP := PP.ext hP hk110
            have hF := RF.ext hF hk110
            have hP := PP.cons hr111 hP
            refine W.eq (g2 := F0 m 60 ls [.ref r111]) rfl ?_
            refine lv_astore (lv' := [(7, .ref r111), (6, .int (nI 1)), (4, .int (nI (enp x1 y1 q k t 1))), (5, .ref nr), (0, .ref o), (1, .int (nI k)), (2, .long (lN t))]) X.1 X.2.1 dX1_endingSide_60 hl (by decide) rfl (fun ls hl => ?_)
            refine lv_aload X.1 X.2.1 dX1_endingSide_62 (lv_at hl 0 rfl) ?_
            refine lv_aload X.1 X.2.1 dX1_endingSide_64 (lv_at hl 3 rfl) ?_
            refine p_callV (C := RX0) (b := r111) (As := [.ref nr]) (rest := []) X (b_less l g _ _ bn bc (by decide) (by decide)) ⟨mw_267, mw_268, mw_269, mw_39, mw_270⟩ sgX0_isLess ⟨rfl, rfl, ⟨by decide, by decide⟩, by decide, by decide⟩ (hP.at 0 rfl) rfl rfl (hP.sub [0, 1] rfl) hX.1 rfl hl.1 rfl (Nat.le_of_ble_eq_true rfl) dX1_endingSide_66 (fun v H112 hk113 hp => ?_)
            obtain rfl := hp
            have hX := hX.tr hk113
            have hP := PP.ext hP hk113
            have hF := RF.ext hF hk113
            refine W.eq (g2 := F0 m 69 ls [.int (bI (decide (lim x1 y1 q k t 1 < lim x1 y1 q k t (enp x1 y1 q k t 1))))]) rfl ?_
            refine q_Bne X (tgt := 89) dX1_endingSide_69 (by decide) (fun hB114 => ?_) (fun hB114 => ?_)
            ·
              refine lv_iload X.1 X.2.1 dX1_endingSide_89 (lv_at hl 1 rfl) ?_
              refine lv_istore (lv' := [(4, .int (nI 1)), (7, .ref r111), (6, .int (nI 1)), (5, .ref nr), (0, .ref o), (1, .int (nI k)), (2, .long (lN t))]) X.1 X.2.1 dX1_endingSide_91 hl (by decide) rfl (fun ls hl => ?_)
              refine lv_aload X.1 X.2.1 dX1_endingSide_93 (lv_at hl 1 rfl) ?_
              refine lv_astore (lv' := [(5, .ref r111), (4, .int (nI 1)), (7, .ref r111), (6, .int (nI 1)), (0, .ref o), (1, .int (nI k)), (2, .long (lN t))]) X.1 X.2.1 dX1_endingSide_95 hl (by decide) rfl (fun ls hl => ?_)
              refine lv_iinc (v := nI (1 + 1)) (lv' := [(6, .int (nI (1 + 1))), (5, .ref r111), (4, .int (nI 1)), (7, .ref r111), (0, .ref o), (1, .int (nI k)), (2, .long (lN t))]) X.1 X.2.1 dX1_endingSide_97 hl (k := 3) rfl (nI_1 _) (by decide) rfl (fun ls hl => ?_)
              refine lv_goto (tgt := 19) X.1 X.2.1 dX1_endingSide_100 (by decide) ?_
              have e9 : enp x1 y1 q k t 2 = 1 := enp_yes hB102 hB105 hB108 (Or.inl (of_decide_eq_true hB114))
              exact L2 r111 _ ls hX (by rw [e9]; exact hP.sub [0, 2, 3] rfl) hF (by rw [e9]; exact lv_sub hl [0, 2, 1, 4, 5, 6] rfl)
            ·
              refine lv_aload X.1 X.2.1 dX1_endingSide_72 (lv_at hl 0 rfl) ?_
              refine lv_aload X.1 X.2.1 dX1_endingSide_74 (lv_at hl 3 rfl) ?_
              refine p_callV (C := RX0) (b := r111) (As := [.ref nr]) (rest := []) X (b_same l g _ _ bn bc (by decide) (by decide) (by decide) (by decide)) ⟨mw_204, mw_205, mw_206, mw_39, mw_207⟩ sgX0_isSame ⟨rfl, rfl, ⟨by decide, by decide⟩, by decide, by decide⟩ (hP.at 0 rfl) rfl rfl (hP.sub [0, 1] rfl) hX.1 rfl hl.1 rfl (Nat.le_of_ble_eq_true rfl) dX1_endingSide_76 (fun v H115 hk116 hp => ?_)
              obtain rfl := hp
              have hX := hX.tr hk116
              have hP := PP.ext hP hk116
              have hF := RF.ext hF hk116
              refine W.eq (g2 := F0 m 79 ls [.int (bI (decide (lim x1 y1 q k t 1 = lim x1 y1 q k t (enp x1 y1 q k t 1))))]) rfl ?_
              refine q_Beq X (tgt := 97) dX1_endingSide_79 (by decide) (fun hB117 => ?_) (fun hB117 => ?_)
              ·
                refine lv_iinc (v := nI (1 + 1)) (lv' := [(6, .int (nI (1 + 1))), (7, .ref r111), (4, .int (nI (enp x1 y1 q k t 1))), (5, .ref nr), (0, .ref o), (1, .int (nI k)), (2, .long (lN t))]) X.1 X.2.1 dX1_endingSide_97 hl (k := 1) rfl (nI_1 _) (by decide) rfl (fun ls hl => ?_)
                refine lv_goto (tgt := 19) X.1 X.2.1 dX1_endingSide_100 (by decide) ?_
                have e9 : enp x1 y1 q k t 2 = enp x1 y1 q k t 1 := enp_no (Or.inr (Or.inr (Or.inr ⟨of_decide_eq_false hB114, fun h9 => absurd h9 (of_decide_eq_false hB117)⟩)))
                exact L2 nr _ ls hX (by rw [e9]; exact hP.sub [1, 2, 3] rfl) hF (by rw [e9]; exact lv_sub hl [0, 2, 3, 4, 5, 6] rfl)
              ·
                refine lv_iload X.1 X.2.1 dX1_endingSide_82 (lv_at hl 1 rfl) ?_
                refine lv_iload X.1 X.2.1 dX1_endingSide_84 (lv_at hl 2 rfl) ?_
                refine q_Ige X (by omega) (by omega) (tgt := 97) dX1_endingSide_86 (by decide) (fun hB118 => ?_) (fun hB118 => ?_)
                ·
                  refine lv_iinc (v := nI (1 + 1)) (lv' := [(6, .int (nI (1 + 1))), (7, .ref r111), (4, .int (nI (enp x1 y1 q k t 1))), (5, .ref nr), (0, .ref o), (1, .int (nI k)), (2, .long (lN t))]) X.1 X.2.1 dX1_endingSide_97 hl (k := 1) rfl (nI_1 _) (by decide) rfl (fun ls hl => ?_)
                  refine lv_goto (tgt := 19) X.1 X.2.1 dX1_endingSide_100 (by decide) ?_
                  have e9 : enp x1 y1 q k t 2 = enp x1 y1 q k t 1 := enp_no (Or.inr (Or.inr (Or.inr ⟨of_decide_eq_false hB114, fun _ => hB118⟩)))
                  exact L2 nr _ ls hX (by rw [e9]; exact hP.sub [1, 2, 3] rfl) hF (by rw [e9]; exact lv_sub hl [0, 2, 3, 4, 5, 6] rfl)
                ·
                  refine lv_iload X.1 X.2.1 dX1_endingSide_89 (lv_at hl 1 rfl) ?_
                  refine lv_istore (lv' := [(4, .int (nI 1)), (7, .ref r111), (6, .int (nI 1)), (5, .ref nr), (0, .ref o), (1, .int (nI k)), (2, .long (lN t))]) X.1 X.2.1 dX1_endingSide_91 hl (by decide) rfl (fun ls hl => ?_)
                  refine lv_aload X.1 X.2.1 dX1_endingSide_93 (lv_at hl 1 rfl) ?_
                  refine lv_astore (lv' := [(5, .ref r111), (4, .int (nI 1)), (7, .ref r111), (6, .int (nI 1)), (0, .ref o), (1, .int (nI k)), (2, .long (lN t))]) X.1 X.2.1 dX1_endingSide_95 hl (by decide) rfl (fun ls hl => ?_)
                  refine lv_iinc (v := nI (1 + 1)) (lv' := [(6, .int (nI (1 + 1))), (5, .ref r111), (4, .int (nI 1)), (7, .ref r111), (0, .ref o), (1, .int (nI k)), (2, .long (lN t))]) X.1 X.2.1 dX1_endingSide_97 hl (k := 3) rfl (nI_1 _) (by decide) rfl (fun ls hl => ?_)
                  refine lv_goto (tgt := 19) X.1 X.2.1 dX1_endingSide_100 (by decide) ?_
                  have e9 : enp x1 y1 q k t 2 = 1 := enp_yes hB102 hB105 hB108 (Or.inr ⟨of_decide_eq_true hB117, hB118⟩)
                  exact L2 r111 _ ls hX (by rw [e9]; exact hP.sub [0, 2, 3] rfl) hF (by rw [e9]; exact lv_sub hl [0, 2, 1, 4, 5, 6] rfl)
          ·
            refine lv_goto (tgt := 97) X.1 X.2.1 dX1_endingSide_49 (by decide) ?_
            refine lv_iinc (v := nI (1 + 1)) (lv' := [(6, .int (nI (1 + 1))), (4, .int (nI (enp x1 y1 q k t 1))), (5, .ref nr), (0, .ref o), (1, .int (nI k)), (2, .long (lN t))]) X.1 X.2.1 dX1_endingSide_97 hl (k := 0) rfl (nI_1 _) (by decide) rfl (fun ls hl => ?_)
            refine lv_goto (tgt := 19) X.1 X.2.1 dX1_endingSide_100 (by decide) ?_
            refine W.widen (k := 9) (n := 18) (by decide) (by decide) ?_
            have e9 : enp x1 y1 q k t 2 = enp x1 y1 q k t 1 := enp_no (Or.inr (Or.inr (Or.inl hB108)))
            exact L2 nr _ ls hX (by rw [e9]; exact hP.sub [0, 1, 2] rfl) hF (by rw [e9]; exact lv_sub hl [0, 1, 2, 3, 4, 5] rfl)
  have L0 : ∀ (nr : Nat) (H : Heap) (ls : Array Slot), hxt s.heap H → PP g [fq nr (lim x1 y1 q k t (enp x1 y1 q k t 0)), ob o x1 y1 r, ar g r A] H → RF g A q H → lv_has ls 8 [(6, .int (nI 0)), (4, .int (nI (enp x1 y1 q k t 0))), (5, .ref nr), (0, .ref o), (1, .int (nI k)), (2, .long (lN t))] → W p l e { frames := 4, cells := 15, slots := 30, locals := 108 } s m ([.ref o, .int (nI k), .long (lN t)] : List Value).toArray below meth c H [] 3 6 (MQ below (pQ (rI (enp x1 y1 q k t 4))) ([.ref o, .int (nI k), .long (lN t)] : List Value).toArray s 15 30 (fun q => s.heap.size ≤ q)) (F0 m 19 ls []) := by
    intro nr H ls hX hP hF hl
    refine lv_iload X.1 X.2.1 dX1_endingSide_19 (lv_at hl 0 rfl) ?_
    refine lv_iconst (v := nI 4) X.1 X.2.1 dX1_endingSide_21 (by decide) ?_
    obtain ⟨hc, hc2⟩ := hok 0 (by decide)
    have bc := bd_lim hO hk hc ht hg hc2
    refine q_Ige X (by omega) (by omega) (tgt := 103) dX1_endingSide_22 (by decide) (fun hB101 => ?_) (fun hB101 => ?_)
    ·
      exact absurd hB101 (by decide)
    ·
      refine lv_iload X.1 X.2.1 dX1_endingSide_25 (lv_at hl 0 rfl) ?_
      refine lv_iload_n X.1 X.2.1 dX1_endingSide_27 rfl (lv_at hl 4 rfl) ?_
      refine q_Ieq X (by omega) (by omega) (tgt := 97) dX1_endingSide_28 (by decide) (fun hB102 => ?_) (fun hB102 => ?_)
      ·
        refine lv_iinc (v := nI (0 + 1)) (lv' := [(6, .int (nI (0 + 1))), (4, .int (nI (enp x1 y1 q k t 0))), (5, .ref nr), (0, .ref o), (1, .int (nI k)), (2, .long (lN t))]) X.1 X.2.1 dX1_endingSide_97 hl (k := 0) rfl (nI_1 _) (by decide) rfl (fun ls hl => ?_)
        refine lv_goto (tgt := 19) X.1 X.2.1 dX1_endingSide_100 (by decide) ?_
        refine W.widen (k := 6) (n := 12) (by decide) (by decide) ?_
        have e9 : enp x1 y1 q k t 1 = enp x1 y1 q k t 0 := enp_no (Or.inl hB102)
        exact L1 nr _ ls hX (by rw [e9]; exact hP.sub [0, 1, 2] rfl) hF (by rw [e9]; exact lv_sub hl [0, 1, 2, 3, 4, 5] rfl)
      ·
        refine lv_iload X.1 X.2.1 dX1_endingSide_31 (lv_at hl 0 rfl) ?_
        refine lv_iload_n X.1 X.2.1 dX1_endingSide_33 rfl (lv_at hl 4 rfl) ?_
        refine p_callS (As := [.int (nI k)]) (rest := [.int (nI 0)]) X (c_X1_opposite l g k hk) ⟨mw_321, mw_322, mw_38, mw_323⟩ sgX1_opposite ⟨rfl, rfl, ⟨by decide, by decide⟩, by decide, by decide⟩ (trivial) hX.1 rfl hl.1 rfl (Nat.le_of_ble_eq_true rfl) dX1_endingSide_34 (fun v H103 hk104 hp => ?_)
        obtain rfl := hp
        have hX := hX.tr hk104
        have hP := PP.ext hP hk104
        have hF := RF.ext hF hk104
        refine W.eq (g2 := F0 m 37 ls [.int (nI (opp k)), .int (nI 0)]) rfl ?_
        refine q_Ieq X (by omega) (by omega) (tgt := 97) dX1_endingSide_37 (by decide) (fun hB105 => ?_) (fun hB105 => ?_)
        ·
          refine lv_iinc (v := nI (0 + 1)) (lv' := [(6, .int (nI (0 + 1))), (4, .int (nI (enp x1 y1 q k t 0))), (5, .ref nr), (0, .ref o), (1, .int (nI k)), (2, .long (lN t))]) X.1 X.2.1 dX1_endingSide_97 hl (k := 0) rfl (nI_1 _) (by decide) rfl (fun ls hl => ?_)
          refine lv_goto (tgt := 19) X.1 X.2.1 dX1_endingSide_100 (by decide) ?_
          refine W.widen (k := 6) (n := 12) (by decide) (by decide) ?_
          have e9 : enp x1 y1 q k t 1 = enp x1 y1 q k t 0 := enp_no (Or.inr (Or.inl hB105))
          exact L1 nr _ ls hX (by rw [e9]; exact hP.sub [0, 1, 2] rfl) hF (by rw [e9]; exact lv_sub hl [0, 1, 2, 3, 4, 5] rfl)
        ·
          refine lv_aload_n X.1 X.2.1 dX1_endingSide_40 rfl (lv_at hl 3 rfl) ?_
          refine lv_iload X.1 X.2.1 dX1_endingSide_41 (lv_at hl 0 rfl) ?_
          refine p_callV (C := RX1) (b := o) (As := [.int (nI 0)]) (rest := []) X (c_X1_isGable l g o r A x1 y1 q 0 (by decide) (hq 0 (by decide))) ⟨mw_220, mw_222, mw_3, mw_38, mw_223⟩ sgX1_isGable ⟨rfl, rfl, ⟨by decide, by decide⟩, by decide, by decide⟩ (hP.at 1 rfl) rfl rfl (RP.of hP [1, 2] rfl hF) hX.1 rfl hl.1 rfl (Nat.le_of_ble_eq_true rfl) dX1_endingSide_43 (fun v H106 hk107 hp => ?_)
          obtain rfl := hp
          have hX := hX.tr hk107
          have hP := PP.ext hP hk107
          have hF := RF.ext hF hk107
          refine W.eq (g2 := F0 m 46 ls [.int (bI (gab q 0))]) rfl ?_
          refine q_Beq X (tgt := 52) dX1_endingSide_46 (by decide) (fun hB108 => ?_) (fun hB108 => ?_)
          ·
            refine lv_aload_n X.1 X.2.1 dX1_endingSide_52 rfl (lv_at hl 3 rfl) ?_
            refine lv_iload X.1 X.2.1 dX1_endingSide_53 (lv_at hl 0 rfl) ?_
            refine lv_iload_n X.1 X.2.1 dX1_endingSide_55 rfl (lv_at hl 4 rfl) ?_
            refine lv_lload_n X.1 X.2.1 dX1_endingSide_56 rfl (lv_at hl 5 rfl) ?_
            have bn := bd_lim hO hk (show 0 < 4 by decide) ht hg (Or.inr hB108)
            refine p_callV (C := RX1) (b := o) (As := [.int (nI 0), .int (nI k), .long (lN t)]) (rest := []) X (c_X1_limitBy l g o r A x1 y1 q 0 k t hO (by decide) hk ht hg (Or.inr hB108)) ⟨mw_324, mw_326, mw_14, mw_38, mw_327⟩ sgX1_limitBy ⟨rfl, rfl, ⟨by decide, by decide⟩, by decide, by decide⟩ (hP.at 1 rfl) rfl rfl (RP.of hP [1, 2] rfl hF) hX.1 rfl hl.1 rfl (Nat.le_of_ble_eq_true rfl) dX1_endingSide_57 (fun v H109 hk110 hp => ?_)
            obtain ⟨r111, rfl, hr111⟩ := hp
            have hX := hX.tr hk110
            have hP := PP.ext hP hk110
            have hF := RF.ext hF hk110
            have hP := PP.cons hr111 hP
            refine W.eq (g2 := F0 m 60 ls [.ref r111]) rfl ?_
            refine lv_astore (lv' := [(7, .ref r111), (6, .int (nI 0)), (4, .int (nI (enp x1 y1 q k t 0))), (5, .ref nr), (0, .ref o), (1, .int (nI k)), (2, .long (lN t))]) X.1 X.2.1 dX1_endingSide_60 hl (by decide) rfl (fun ls hl => ?_)
            refine lv_aload X.1 X.2.1 dX1_endingSide_62 (lv_at hl 0 rfl) ?_
            refine lv_aload X.1 X.2.1 dX1_endingSide_64 (lv_at hl 3 rfl) ?_
            refine p_callV (C := RX0) (b := r111) (As := [.ref nr]) (rest := []) X (b_less l g _ _ bn bc (by decide) (by decide)) ⟨mw_267, mw_268, mw_269, mw_39, mw_270⟩ sgX0_isLess ⟨rfl, rfl, ⟨by decide, by decide⟩, by decide, by decide⟩ (hP.at 0 rfl) rfl rfl (hP.sub [0, 1] rfl) hX.1 rfl hl.1 rfl (Nat.le_of_ble_eq_true rfl) dX1_endingSide_66 (fun v H112 hk113 hp => ?_)
            obtain rfl := hp
            have hX := hX.tr hk113
            have hP := PP.ext hP hk113
            have hF := RF.ext hF hk113
            refine W.eq (g2 := F0 m 69 ls [.int (bI (decide (lim x1 y1 q k t 0 < lim x1 y1 q k t (enp x1 y1 q k t 0))))]) rfl ?_
            refine q_Bne X (tgt := 89) dX1_endingSide_69 (by decide) (fun hB114 => ?_) (fun hB114 => ?_)
            ·
              refine lv_iload X.1 X.2.1 dX1_endingSide_89 (lv_at hl 1 rfl) ?_
              refine lv_istore (lv' := [(4, .int (nI 0)), (7, .ref r111), (6, .int (nI 0)), (5, .ref nr), (0, .ref o), (1, .int (nI k)), (2, .long (lN t))]) X.1 X.2.1 dX1_endingSide_91 hl (by decide) rfl (fun ls hl => ?_)
              refine lv_aload X.1 X.2.1 dX1_endingSide_93 (lv_at hl 1 rfl) ?_
              refine lv_astore (lv' := [(5, .ref r111), (4, .int (nI 0)), (7, .ref r111), (6, .int (nI 0)), (0, .ref o), (1, .int (nI k)), (2, .long (lN t))]) X.1 X.2.1 dX1_endingSide_95 hl (by decide) rfl (fun ls hl => ?_)
              refine lv_iinc (v := nI (0 + 1)) (lv' := [(6, .int (nI (0 + 1))), (5, .ref r111), (4, .int (nI 0)), (7, .ref r111), (0, .ref o), (1, .int (nI k)), (2, .long (lN t))]) X.1 X.2.1 dX1_endingSide_97 hl (k := 3) rfl (nI_1 _) (by decide) rfl (fun ls hl => ?_)
              refine lv_goto (tgt := 19) X.1 X.2.1 dX1_endingSide_100 (by decide) ?_
              have e9 : enp x1 y1 q k t 1 = 0 := enp_yes hB102 hB105 hB108 (Or.inl (of_decide_eq_true hB114))
              exact L1 r111 _ ls hX (by rw [e9]; exact hP.sub [0, 2, 3] rfl) hF (by rw [e9]; exact lv_sub hl [0, 2, 1, 4, 5, 6] rfl)
            ·
              refine lv_aload X.1 X.2.1 dX1_endingSide_72 (lv_at hl 0 rfl) ?_
              refine lv_aload X.1 X.2.1 dX1_endingSide_74 (lv_at hl 3 rfl) ?_
              refine p_callV (C := RX0) (b := r111) (As := [.ref nr]) (rest := []) X (b_same l g _ _ bn bc (by decide) (by decide) (by decide) (by decide)) ⟨mw_204, mw_205, mw_206, mw_39, mw_207⟩ sgX0_isSame ⟨rfl, rfl, ⟨by decide, by decide⟩, by decide, by decide⟩ (hP.at 0 rfl) rfl rfl (hP.sub [0, 1] rfl) hX.1 rfl hl.1 rfl (Nat.le_of_ble_eq_true rfl) dX1_endingSide_76 (fun v H115 hk116 hp => ?_)
              obtain rfl := hp
              have hX := hX.tr hk116
              have hP := PP.ext hP hk116
              have hF := RF.ext hF hk116
              refine W.eq (g2 := F0 m 79 ls [.int (bI (decide (lim x1 y1 q k t 0 = lim x1 y1 q k t (enp x1 y1 q k t 0))))]) rfl ?_
              refine q_Beq X (tgt := 97) dX1_endingSide_79 (by decide) (fun hB117 => ?_) (fun hB117 => ?_)
              ·
                refine lv_iinc (v := nI (0 + 1)) (lv' := [(6, .int (nI (0 + 1))), (7, .ref r111), (4, .int (nI (enp x1 y1 q k t 0))), (5, .ref nr), (0, .ref o), (1, .int (nI k)), (2, .long (lN t))]) X.1 X.2.1 dX1_endingSide_97 hl (k := 1) rfl (nI_1 _) (by decide) rfl (fun ls hl => ?_)
                refine lv_goto (tgt := 19) X.1 X.2.1 dX1_endingSide_100 (by decide) ?_
                have e9 : enp x1 y1 q k t 1 = enp x1 y1 q k t 0 := enp_no (Or.inr (Or.inr (Or.inr ⟨of_decide_eq_false hB114, fun h9 => absurd h9 (of_decide_eq_false hB117)⟩)))
                exact L1 nr _ ls hX (by rw [e9]; exact hP.sub [1, 2, 3] rfl) hF (by rw [e9]; exact lv_sub hl [0, 2, 3, 4, 5, 6] rfl)
              ·
                refine lv_iload X.1 X.2.1 dX1_endingSide_82 (lv_at hl 1 rfl) ?_
                refine lv_iload X.1 X.2.1 dX1_endingSide_84 (lv_at hl 2 rfl) ?_
                refine q_Ige X (by omega) (by omega) (tgt := 97) dX1_endingSide_86 (by decide) (fun hB118 => ?_) (fun hB118 => ?_)
                ·
                  refine lv_iinc (v := nI (0 + 1)) (lv' := [(6, .int (nI (0 + 1))), (7, .ref r111), (4, .int (nI (enp x1 y1 q k t 0))), (5, .ref nr), (0, .ref o), (1, .int (nI k)), (2, .long (lN t))]) X.1 X.2.1 dX1_endingSide_97 hl (k := 1) rfl (nI_1 _) (by decide) rfl (fun ls hl => ?_)
                  refine lv_goto (tgt := 19) X.1 X.2.1 dX1_endingSide_100 (by decide) ?_
                  have e9 : enp x1 y1 q k t 1 = enp x1 y1 q k t 0 := enp_no (Or.inr (Or.inr (Or.inr ⟨of_decide_eq_false hB114, fun _ => hB118⟩)))
                  exact L1 nr _ ls hX (by rw [e9]; exact hP.sub [1, 2, 3] rfl) hF (by rw [e9]; exact lv_sub hl [0, 2, 3, 4, 5, 6] rfl)
                ·
                  refine lv_iload X.1 X.2.1 dX1_endingSide_89 (lv_at hl 1 rfl) ?_
                  refine lv_istore (lv' := [(4, .int (nI 0)), (7, .ref r111), (6, .int (nI 0)), (5, .ref nr), (0, .ref o), (1, .int (nI k)), (2, .long (lN t))]) X.1 X.2.1 dX1_endingSide_91 hl (by decide) rfl (fun ls hl => ?_)
                  refine lv_aload X.1 X.2.1 dX1_endingSide_93 (lv_at hl 1 rfl) ?_
                  refine lv_astore (lv' := [(5, .ref r111), (4, .int (nI 0)), (7, .ref r111), (6, .int (nI 0)), (0, .ref o), (1, .int (nI k)), (2, .long (lN t))]) X.1 X.2.1 dX1_endingSide_95 hl (by decide) rfl (fun ls hl => ?_)
                  refine lv_iinc (v := nI (0 + 1)) (lv' := [(6, .int (nI (0 + 1))), (5, .ref r111), (4, .int (nI 0)), (7, .ref r111), (0, .ref o), (1, .int (nI k)), (2, .long (lN t))]) X.1 X.2.1 dX1_endingSide_97 hl (k := 3) rfl (nI_1 _) (by decide) rfl (fun ls hl => ?_)
                  refine lv_goto (tgt := 19) X.1 X.2.1 dX1_endingSide_100 (by decide) ?_
                  have e9 : enp x1 y1 q k t 1 = 0 := enp_yes hB102 hB105 hB108 (Or.inr ⟨of_decide_eq_true hB117, hB118⟩)
                  exact L1 r111 _ ls hX (by rw [e9]; exact hP.sub [0, 2, 3] rfl) hF (by rw [e9]; exact lv_sub hl [0, 2, 1, 4, 5, 6] rfl)
          ·
            refine lv_goto (tgt := 97) X.1 X.2.1 dX1_endingSide_49 (by decide) ?_
            refine lv_iinc (v := nI (0 + 1)) (lv' := [(6, .int (nI (0 + 1))), (4, .int (nI (enp x1 y1 q k t 0))), (5, .ref nr), (0, .ref o), (1, .int (nI k)), (2, .long (lN t))]) X.1 X.2.1 dX1_endingSide_97 hl (k := 0) rfl (nI_1 _) (by decide) rfl (fun ls hl => ?_)
            refine lv_goto (tgt := 19) X.1 X.2.1 dX1_endingSide_100 (by decide) ?_
            refine W.widen (k := 6) (n := 12) (by decide) (by decide) ?_
            have e9 : enp x1 y1 q k t 1 = enp x1 y1 q k t 0 := enp_no (Or.inr (Or.inr (Or.inl hB108)))
            exact L1 nr _ ls hX (by rw [e9]; exact hP.sub [0, 1, 2] rfl) hF (by rw [e9]; exact lv_sub hl [0, 1, 2, 3, 4, 5] rfl)
  have hl : lv_has ls 8 [(0, .ref o), (1, .int (nI k)), (2, .long (lN t))] := hl
  have hX : hxt s.heap s.heap := hxt.rf
  have hP : PP g [ob o x1 y1 r, ar g r A] s.heap := hP
  refine lv_iload_n X.1 X.2.1 dX1_endingSide_0 rfl (lv_at hl 1 rfl) ?_
  refine p_callS (As := [.int (nI k)]) (rest := []) X (c_X1_opposite l g k hk) ⟨mw_321, mw_322, mw_38, mw_323⟩ sgX1_opposite ⟨rfl, rfl, ⟨by decide, by decide⟩, by decide, by decide⟩ (trivial) hX.1 rfl hl.1 rfl (Nat.le_of_ble_eq_true rfl) dX1_endingSide_1 (fun v H1 hk2 hp => ?_)
  obtain rfl := hp
  have hX := hX.tr hk2
  have hP := PP.ext hP hk2
  have hF := RF.ext hF hk2
  refine W.eq (g2 := F0 m 4 ls [.int (nI (opp k))]) rfl ?_
  refine lv_istore (lv' := [(4, .int (nI (opp k))), (0, .ref o), (1, .int (nI k)), (2, .long (lN t))]) X.1 X.2.1 dX1_endingSide_4 hl (by decide) rfl (fun ls hl => ?_)
  refine lv_aload_n X.1 X.2.1 dX1_endingSide_6 rfl (lv_at hl 1 rfl) ?_
  refine lv_iload X.1 X.2.1 dX1_endingSide_7 (lv_at hl 0 rfl) ?_
  refine lv_iload_n X.1 X.2.1 dX1_endingSide_9 rfl (lv_at hl 2 rfl) ?_
  refine lv_lload_n X.1 X.2.1 dX1_endingSide_10 rfl (lv_at hl 3 rfl) ?_
  refine p_callV (C := RX1) (b := o) (As := [.int (nI (opp k)), .int (nI k), .long (lN t)]) (rest := []) X (c_X1_limitBy l g o r A x1 y1 q (opp k) k t hO hop hk ht hg (Or.inl rfl)) ⟨mw_324, mw_326, mw_14, mw_38, mw_327⟩ sgX1_limitBy ⟨rfl, rfl, ⟨by decide, by decide⟩, by decide, by decide⟩ (hP.at 0 rfl) rfl rfl (RP.of hP [0, 1] rfl hF) hX.1 rfl hl.1 rfl (Nat.le_of_ble_eq_true rfl) dX1_endingSide_11 (fun v H3 hk4 hp => ?_)
  obtain ⟨r5, rfl, hr5⟩ := hp
  have hX := hX.tr hk4
  have hP := PP.ext hP hk4
  have hF := RF.ext hF hk4
  have hP := PP.cons hr5 hP
  refine W.eq (g2 := F0 m 14 ls [.ref r5]) rfl ?_
  refine lv_astore (lv' := [(5, .ref r5), (4, .int (nI (opp k))), (0, .ref o), (1, .int (nI k)), (2, .long (lN t))]) X.1 X.2.1 dX1_endingSide_14 hl (by decide) rfl (fun ls hl => ?_)
  refine lv_iconst (v := nI 0) X.1 X.2.1 dX1_endingSide_16 (by decide) ?_
  refine lv_istore (lv' := [(6, .int (nI 0)), (5, .ref r5), (4, .int (nI (opp k))), (0, .ref o), (1, .int (nI k)), (2, .long (lN t))]) X.1 X.2.1 dX1_endingSide_17 hl (by decide) rfl (fun ls hl => ?_)
  exact L0 r5 _ ls hX hP hF (lv_sub hl [0, 2, 1, 3, 4, 5] rfl)
theorem enp4 {x1 y1 : Nat} {q : Nat → Rat} (k t : Nat) : enp x1 y1 q k t 4 < 4 ∧ (enp x1 y1 q k t 4 = opp k ∨ gab q (enp x1 y1 q k t 4) = false) := enp_ok x1 y1 q k t 4 (by decide)
def raf (x1 y1 : Nat) (q : Nat → Rat) (k t : Nat) : Rat := lim x1 y1 q k t (enp x1 y1 q k t 4)
theorem bd_raf {x1 y1 : Nat} {q : Nat → Rat} (hO : OK x1 y1 q) {k t : Nat} (hk : k < 4) (ht : t ≤ slen x1 y1 k) (hg : gab q k = false) : bd (raf x1 y1 q k t) 16000000 16000 := bd_lim hO hk (enp4 k t).1 ht hg (enp4 k t).2
set_option maxHeartbeats 4000000 in
set_option maxRecDepth 100000 in
theorem c_X1_rafterEnd (l : Launch) (g : En) (o r : Nat) (A : Nat → Nat) (x1 y1 : Nat) (q : Nat → Rat) (k t : Nat) (hO : OK x1 y1 q) (hk : k < 4) (ht : t ≤ slen x1 y1 k) (hg : gab q k = false) : PM l yX1_rafterEnd cX1_rafterEnd 4 (some (FieldType.object "RafterPlaces$Fraction")) { frames := 5, cells := 18, slots := 36, locals := 135 } g [.ref o, .int (nI k), .long (lN t)] (fun H => RP g o r A x1 y1 q H) 18 36 (rF g (raf x1 y1 q k t)) := by
  refine PM.of (by decide) (Nat.le_of_ble_eq_true rfl) (fun p e s m below meth c ls X hG hl => ?_)
  obtain ⟨hP, hF⟩ := hG
  have hl : lv_has ls 4 [(0, .ref o), (1, .int (nI k)), (2, .long (lN t))] := hl
  have hX : hxt s.heap s.heap := hxt.rf
  have hP : PP g [ob o x1 y1 r, ar g r A] s.heap := hP
  refine lv_aload_n X.1 X.2.1 dX1_rafterEnd_0 rfl (lv_at hl 0 rfl) ?_
  refine lv_aload_n X.1 X.2.1 dX1_rafterEnd_1 rfl (lv_at hl 0 rfl) ?_
  refine lv_iload_n X.1 X.2.1 dX1_rafterEnd_2 rfl (lv_at hl 1 rfl) ?_
  refine lv_lload_n X.1 X.2.1 dX1_rafterEnd_3 rfl (lv_at hl 2 rfl) ?_
  refine p_callV (C := RX1) (b := o) (As := [.int (nI k), .long (lN t)]) (rest := [.ref o]) X (c_X1_endingSide l g o r A x1 y1 q k t hO hk ht hg) ⟨mw_317, mw_319, mw_13, mw_38, mw_320⟩ sgX1_endingSide ⟨rfl, rfl, ⟨by decide, by decide⟩, by decide, by decide⟩ (hP.at 0 rfl) rfl rfl (RP.of hP [0, 1] rfl hF) hX.1 rfl hl.1 rfl (Nat.le_of_ble_eq_true rfl) dX1_rafterEnd_4 (fun v H1 hk2 hp => ?_)
  obtain rfl := hp
  have hX := hX.tr hk2
  have hP := PP.ext hP hk2
  have hF := RF.ext hF hk2
  refine W.eq (g2 := F0 m 7 ls [.int (nI (enp x1 y1 q k t 4)), .ref o]) rfl ?_
  refine lv_iload_n X.1 X.2.1 dX1_rafterEnd_7 rfl (lv_at hl 1 rfl) ?_
  refine lv_lload_n X.1 X.2.1 dX1_rafterEnd_8 rfl (lv_at hl 2 rfl) ?_
  refine p_callV (C := RX1) (b := o) (As := [.int (nI (enp x1 y1 q k t 4)), .int (nI k), .long (lN t)]) (rest := []) X (c_X1_limitBy l g o r A x1 y1 q (enp x1 y1 q k t 4) k t hO (enp4 k t).1 hk ht hg (enp4 k t).2) ⟨mw_324, mw_326, mw_14, mw_38, mw_327⟩ sgX1_limitBy ⟨rfl, rfl, ⟨by decide, by decide⟩, by decide, by decide⟩ (hP.at 0 rfl) rfl rfl (RP.of hP [0, 1] rfl hF) hX.1 rfl hl.1 rfl (Nat.le_of_ble_eq_true rfl) dX1_rafterEnd_9 (fun v H3 hk4 hp => ?_)
  obtain ⟨r5, rfl, hr5⟩ := hp
  have hX := hX.tr hk4
  have hP := PP.ext hP hk4
  have hF := RF.ext hF hk4
  have hP := PP.cons hr5 hP
  refine W.eq (g2 := F0 m 12 ls [.ref r5]) rfl ?_
  exact p_aret X hX (⟨_, rfl, hP.at 0 rfl⟩) ⟨by decide, by decide⟩ dX1_rafterEnd_12
set_option maxHeartbeats 4000000 in
set_option maxRecDepth 100000 in
theorem c_X1_squareAlongSlope (l : Launch) (g : En) (o r : Nat) (A : Nat → Nat) (x1 y1 : Nat) (q : Nat → Rat) (k b : Nat) (z : Rat) (hO : OK x1 y1 q) (hk : k < 4) (hg : gab q k = false) (hz : bd z 16000000 16000) : PM l yX1_squareAlongSlope cX1_squareAlongSlope 4 (some (FieldType.object "RafterPlaces$Fraction")) { frames := 3, cells := 6, slots := 12, locals := 79 } g [.ref o, .int (nI k), .ref b] (fun H => RP g o r A x1 y1 q H ∧ va_at g.1 cl0 (fq b z) H) 6 12 (rF g (sqr q k z)) := by
  refine PM.of (by decide) (Nat.le_of_ble_eq_true rfl) (fun p e s m below meth c ls X hG hl => ?_)
  obtain ⟨⟨hP, hF⟩, hz0⟩ := hG
  have hP := PP.cons hz0 hP
  have b1 := hO.2.2.1 k hk
  have p1 := gab_pos b1 hg
  have b2 := bd_inv b1 p1
  have b3 := bd_mul b2 b2
  have b4 := bd_add b3 (bd_nat 1)
  have b5 := bd_mul b4 hz
  have hl : lv_has ls 4 [(0, .ref o), (1, .int (nI k)), (2, .ref b)] := hl
  have hX : hxt s.heap s.heap := hxt.rf
  have hP : PP g [fq b z, ob o x1 y1 r, ar g r A] s.heap := hP
  refine lv_aload_n X.1 X.2.1 dX1_squareAlongSlope_0 rfl (lv_at hl 0 rfl) ?_
  refine p_get (T := TX1) X uX1 (hP.at 1 rfl) rfl 2 (by decide) mw_79 rfl rfl dX1_squareAlongSlope_1 ?_
  refine lv_iload_n X.1 X.2.1 dX1_squareAlongSlope_4 rfl (lv_at hl 1 rfl) ?_
  refine p_aald X (hP.at 2 rfl) hk (by decide) (r := A k) rfl dX1_squareAlongSlope_5 ?_
  have hP := PP.cons (hF k hk) hP
  refine p_callV (C := RX0) (b := A k) (As := []) (rest := []) X (b_inv l g _ b1 p1 (by decide) (by decide)) ⟨mw_364, mw_365, mw_366, mw_39, mw_367⟩ sgX0_inverse ⟨rfl, rfl, ⟨by decide, by decide⟩, by decide, by decide⟩ (hP.at 0 rfl) rfl rfl (hP.sub [0] rfl) hX.1 rfl hl.1 rfl (Nat.le_of_ble_eq_true rfl) dX1_squareAlongSlope_6 (fun v H1 hk2 hp => ?_)
  obtain ⟨r3, rfl, hr3⟩ := hp
  have hX := hX.tr hk2
  have hP := PP.ext hP hk2
  have hF := RF.ext hF hk2
  have hP := PP.cons hr3 hP
  refine W.eq (g2 := F0 m 9 ls [.ref r3]) rfl ?_
  refine lv_astore_n (lv' := [(3, .ref r3), (0, .ref o), (1, .int (nI k)), (2, .ref b)]) X.1 X.2.1 dX1_squareAlongSlope_9 rfl hl (by decide) rfl (fun ls hl => ?_)
  refine lv_aload_n X.1 X.2.1 dX1_squareAlongSlope_10 rfl (lv_at hl 0 rfl) ?_
  refine lv_aload_n X.1 X.2.1 dX1_squareAlongSlope_11 rfl (lv_at hl 0 rfl) ?_
  refine p_callV (C := RX0) (b := r3) (As := [.ref r3]) (rest := []) X (b_times l g _ _ b2 b2 (by decide) (by decide)) ⟨mw_368, mw_369, mw_370, mw_39, mw_371⟩ sgX0_times ⟨rfl, rfl, ⟨by decide, by decide⟩, by decide, by decide⟩ (hP.at 0 rfl) rfl rfl (hP.sub [0, 0] rfl) hX.1 rfl hl.1 rfl (Nat.le_of_ble_eq_true rfl) dX1_squareAlongSlope_12 (fun v H4 hk5 hp => ?_)
  obtain ⟨r6, rfl, hr6⟩ := hp
  have hX := hX.tr hk5
  have hP := PP.ext hP hk5
  have hF := RF.ext hF hk5
  have hP := PP.cons hr6 hP
  refine W.eq (g2 := F0 m 15 ls [.ref r6]) rfl ?_
  refine p_new (C := RX0) (T := TX0) (N := 2) (ci := 0) X tyX0 tyX0_ok uX0 ⟨mw_58, mw_60, mw_39⟩ rfl [.long 0, .long 0] (fun j hj => by rcases (show j = 0 ∨ j = 1 by omega) with rfl | rfl <;> rfl) ⟨by decide, by decide⟩ dX1_squareAlongSlope_15 (fun q7 H8 eq7 zq7 kq7 hq7 => ?_)
  have hX0 := hX
  have hX := hX.tr kq7
  have hP0 := hP
  have hP := PP.ext hP kq7
  have hF0 := hF
  have hF := RF.ext hF kq7
  refine lv_dup X.1 X.2.1 dX1_squareAlongSlope_18 rfl ?_
  refine lv_lconst (v := lN 1) X.1 X.2.1 dX1_squareAlongSlope_19 (by decide) ?_
  refine lv_lconst (v := lN 1) X.1 X.2.1 dX1_squareAlongSlope_20 (by decide) ?_
  refine p_callI (b := q7) (As := [.long (lN 1), .long (lN 1)]) (rest := [.ref q7, .ref r6]) X (c_X0_init l g q7 1 1 (by decide) (by decide) (by decide)) ⟨mw_61, mw_62, mw_39, mw_63⟩ rfl sgX0_init ⟨rfl, rfl, ⟨by decide, by decide⟩, by decide, by decide⟩ (PP.one hq7) hX.1 (by rw [eq7]; exact hX0.1) rfl hl.1 rfl (Nat.le_of_ble_eq_true rfl) dX1_squareAlongSlope_21 (fun H9 hkq7 hp => ?_)
  have keq7 := kq7.init (Nat.le_of_eq eq7.symm) hkq7
  have hX := hX0.tr keq7
  rw [show ((1 : Nat) : Rat) / ((1 : Nat) : Rat) = ((1 : Nat) : Rat) by decide +kernel] at hp
  have hP := PP.cons hp (PP.ext hP0 keq7)
  have hF := RF.ext hF0 keq7
  refine W.eq (g2 := F0 m 24 ls [.ref q7, .ref r6]) rfl ?_
  refine p_callV (C := RX0) (b := r6) (As := [.ref q7]) (rest := []) X (b_plus l g _ _ b3 (bd_nat 1) (by decide) (by decide)) ⟨mw_328, mw_329, mw_330, mw_39, mw_331⟩ sgX0_plus ⟨rfl, rfl, ⟨by decide, by decide⟩, by decide, by decide⟩ (hP.at 1 rfl) rfl rfl (hP.sub [1, 0] rfl) hX.1 rfl hl.1 rfl (Nat.le_of_ble_eq_true rfl) dX1_squareAlongSlope_24 (fun v H10 hk11 hp => ?_)
  obtain ⟨r12, rfl, hr12⟩ := hp
  have hX := hX.tr hk11
  have hP := PP.ext hP hk11
  have hF := RF.ext hF hk11
  have hP := PP.cons hr12 hP
  refine W.eq (g2 := F0 m 27 ls [.ref r12]) rfl ?_
  refine lv_aload_n X.1 X.2.1 dX1_squareAlongSlope_27 rfl (lv_at hl 3 rfl) ?_
  refine p_callV (C := RX0) (b := r12) (As := [.ref b]) (rest := []) X (b_times l g _ _ b4 hz (by decide) (by decide)) ⟨mw_368, mw_369, mw_370, mw_39, mw_371⟩ sgX0_times ⟨rfl, rfl, ⟨by decide, by decide⟩, by decide, by decide⟩ (hP.at 0 rfl) rfl rfl (hP.sub [0, 5] rfl) hX.1 rfl hl.1 rfl (Nat.le_of_ble_eq_true rfl) dX1_squareAlongSlope_28 (fun v H13 hk14 hp => ?_)
  obtain ⟨r15, rfl, hr15⟩ := hp
  have hX := hX.tr hk14
  have hP := PP.ext hP hk14
  have hF := RF.ext hF hk14
  have hP := PP.cons hr15 hP
  refine W.eq (g2 := F0 m 31 ls [.ref r15]) rfl ?_
  refine lv_aload_n X.1 X.2.1 dX1_squareAlongSlope_31 rfl (lv_at hl 3 rfl) ?_
  refine p_callV (C := RX0) (b := r15) (As := [.ref b]) (rest := []) X (b_times l g _ _ b5 hz (by decide) (by decide)) ⟨mw_368, mw_369, mw_370, mw_39, mw_371⟩ sgX0_times ⟨rfl, rfl, ⟨by decide, by decide⟩, by decide, by decide⟩ (hP.at 0 rfl) rfl rfl (hP.sub [0, 6] rfl) hX.1 rfl hl.1 rfl (Nat.le_of_ble_eq_true rfl) dX1_squareAlongSlope_32 (fun v H16 hk17 hp => ?_)
  obtain ⟨r18, rfl, hr18⟩ := hp
  have hX := hX.tr hk17
  have hP := PP.ext hP hk17
  have hF := RF.ext hF hk17
  have hP := PP.cons hr18 hP
  refine W.eq (g2 := F0 m 35 ls [.ref r18]) rfl ?_
  exact p_aret X hX (⟨_, rfl, hP.at 0 rfl⟩) ⟨by decide, by decide⟩ dX1_squareAlongSlope_35
set_option maxHeartbeats 4000000 in
set_option maxRecDepth 100000 in
theorem c_X1_cutTangent (l : Launch) (g : En) (o r : Nat) (A : Nat → Nat) (x1 y1 : Nat) (q : Nat → Rat) (k t cu : Nat) (hO : OK x1 y1 q) (hk : k < 4) (ht : t ≤ slen x1 y1 k) (hg : gab q k = false) (hcu : cu < 3) : PM l yX1_cutTangent cX1_cutTangent 7 (some (FieldType.object "RafterPlaces$Fraction")) { frames := 5, cells := 16, slots := 32, locals := 135 } g [.ref o, .int (nI k), .long (lN t), .int (nI cu)] (fun H => RP g o r A x1 y1 q H) 16 32 (rF g (tng x1 y1 q k t cu)) := by
  refine PM.of (by decide) (Nat.le_of_ble_eq_true rfl) (fun p e s m below meth c ls X hG hl => ?_)
  obtain ⟨hP, hF⟩ := hG
  have b1 := hO.2.2.1 k hk
  have p1 := gab_pos b1 hg
  have hop := opp_lt k
  obtain ⟨he, he2⟩ := enp4 (x1 := x1) (y1 := y1) (q := q) k t
  have hl : lv_has ls 7 [(0, .ref o), (1, .int (nI k)), (2, .long (lN t)), (4, .int (nI cu))] := hl
  have hX : hxt s.heap s.heap := hxt.rf
  have hP : PP g [ob o x1 y1 r, ar g r A] s.heap := hP
  refine lv_aload_n X.1 X.2.1 dX1_cutTangent_0 rfl (lv_at hl 0 rfl) ?_
  refine p_get (T := TX1) X uX1 (hP.at 0 rfl) rfl 2 (by decide) mw_79 rfl rfl dX1_cutTangent_1 ?_
  refine lv_iload_n X.1 X.2.1 dX1_cutTangent_4 rfl (lv_at hl 1 rfl) ?_
  refine p_aald X (hP.at 1 rfl) hk (by decide) (r := A k) rfl dX1_cutTangent_5 ?_
  have hP := PP.cons (hF k hk) hP
  refine lv_astore (lv' := [(5, .ref (A k)), (0, .ref o), (1, .int (nI k)), (2, .long (lN t)), (4, .int (nI cu))]) X.1 X.2.1 dX1_cutTangent_6 hl (by decide) rfl (fun ls hl => ?_)
  refine lv_iload X.1 X.2.1 dX1_cutTangent_8 (lv_at hl 4 rfl) ?_
  refine q_Zne X (by omega) (tgt := 19) dX1_cutTangent_10 (by decide) (fun hB1 => ?_) (fun hB1 => ?_)
  ·
    refine lv_iload X.1 X.2.1 dX1_cutTangent_19 (lv_at hl 4 rfl) ?_
    refine lv_iconst (v := nI 1) X.1 X.2.1 dX1_cutTangent_21 (by decide) ?_
    refine q_Ine X (by omega) (by omega) (tgt := 28) dX1_cutTangent_22 (by decide) (fun hB2 => ?_) (fun hB2 => ?_)
    ·
      refine lv_aload_n X.1 X.2.1 dX1_cutTangent_28 rfl (lv_at hl 1 rfl) ?_
      refine lv_iload_n X.1 X.2.1 dX1_cutTangent_29 rfl (lv_at hl 2 rfl) ?_
      refine lv_lload_n X.1 X.2.1 dX1_cutTangent_30 rfl (lv_at hl 3 rfl) ?_
      refine p_callV (C := RX1) (b := o) (As := [.int (nI k), .long (lN t)]) (rest := []) X (c_X1_endingSide l g o r A x1 y1 q k t hO hk ht hg) ⟨mw_317, mw_319, mw_13, mw_38, mw_320⟩ sgX1_endingSide ⟨rfl, rfl, ⟨by decide, by decide⟩, by decide, by decide⟩ (hP.at 1 rfl) rfl rfl (RP.of hP [1, 2] rfl hF) hX.1 rfl hl.1 rfl (Nat.le_of_ble_eq_true rfl) dX1_cutTangent_31 (fun v H3 hk4 hp => ?_)
      obtain rfl := hp
      have hX := hX.tr hk4
      have hP := PP.ext hP hk4
      have hF := RF.ext hF hk4
      refine W.eq (g2 := F0 m 34 ls [.int (nI (enp x1 y1 q k t 4))]) rfl ?_
      refine lv_istore (lv' := [(6, .int (nI (enp x1 y1 q k t 4))), (5, .ref (A k)), (0, .ref o), (1, .int (nI k)), (2, .long (lN t)), (4, .int (nI cu))]) X.1 X.2.1 dX1_cutTangent_34 hl (by decide) rfl (fun ls hl => ?_)
      refine lv_iload X.1 X.2.1 dX1_cutTangent_36 (lv_at hl 0 rfl) ?_
      refine lv_iload_n X.1 X.2.1 dX1_cutTangent_38 rfl (lv_at hl 3 rfl) ?_
      refine p_callS (As := [.int (nI k)]) (rest := [.int (nI (enp x1 y1 q k t 4))]) X (c_X1_opposite l g k hk) ⟨mw_321, mw_322, mw_38, mw_323⟩ sgX1_opposite ⟨rfl, rfl, ⟨by decide, by decide⟩, by decide, by decide⟩ (trivial) hX.1 rfl hl.1 rfl (Nat.le_of_ble_eq_true rfl) dX1_cutTangent_39 (fun v H5 hk6 hp => ?_)
      obtain rfl := hp
      have hX := hX.tr hk6
      have hP := PP.ext hP hk6
      have hF := RF.ext hF hk6
      refine W.eq (g2 := F0 m 42 ls [.int (nI (opp k)), .int (nI (enp x1 y1 q k t 4))]) rfl ?_
      refine q_Ine X (by omega) (by omega) (tgt := 55) dX1_cutTangent_42 (by decide) (fun hB7 => ?_) (fun hB7 => ?_)
      ·
        have b2 := hO.2.2.1 _ he
        refine lv_aload_n X.1 X.2.1 dX1_cutTangent_55 rfl (lv_at hl 2 rfl) ?_
        refine p_get (T := TX1) X uX1 (hP.at 1 rfl) rfl 2 (by decide) mw_79 rfl rfl dX1_cutTangent_56 ?_
        refine lv_iload X.1 X.2.1 dX1_cutTangent_59 (lv_at hl 0 rfl) ?_
        refine p_aald X (hP.at 2 rfl) he (by decide) (r := A (enp x1 y1 q k t 4)) rfl dX1_cutTangent_61 ?_
        have hP := PP.cons (hF (enp x1 y1 q k t 4) he) hP
        refine lv_aload X.1 X.2.1 dX1_cutTangent_62 (lv_at hl 1 rfl) ?_
        refine p_callV (C := RX0) (b := A (enp x1 y1 q k t 4)) (As := [.ref (A k)]) (rest := []) X (b_div l g _ _ b2 b1 p1 (by decide) (by decide)) ⟨mw_334, mw_335, mw_336, mw_39, mw_337⟩ sgX0_dividedBy ⟨rfl, rfl, ⟨by decide, by decide⟩, by decide, by decide⟩ (hP.at 0 rfl) rfl rfl (hP.sub [0, 1] rfl) hX.1 rfl hl.1 rfl (Nat.le_of_ble_eq_true rfl) dX1_cutTangent_64 (fun v H8 hk9 hp => ?_)
        obtain ⟨r10, rfl, hr10⟩ := hp
        have hX := hX.tr hk9
        have hP := PP.ext hP hk9
        have hF := RF.ext hF hk9
        have hP := PP.cons hr10 hP
        refine W.eq (g2 := F0 m 67 ls [.ref r10]) rfl ?_
        exact p_aret X hX (⟨_, rfl, by rw [tng, if_neg hB1, if_neg hB2, if_neg hB7]; exact hP.at 0 rfl⟩) ⟨by decide, by decide⟩ dX1_cutTangent_67
      ·
        refine p_new (C := RX0) (T := TX0) (N := 2) (ci := 0) X tyX0 tyX0_ok uX0 ⟨mw_58, mw_60, mw_39⟩ rfl [.long 0, .long 0] (fun j hj => by rcases (show j = 0 ∨ j = 1 by omega) with rfl | rfl <;> rfl) ⟨by decide, by decide⟩ dX1_cutTangent_45 (fun q11 H12 eq11 zq11 kq11 hq11 => ?_)
        have hX0 := hX
        have hX := hX.tr kq11
        have hP0 := hP
        have hP := PP.ext hP kq11
        have hF0 := hF
        have hF := RF.ext hF kq11
        refine lv_dup X.1 X.2.1 dX1_cutTangent_48 rfl ?_
        refine lv_lconst (v := lN 0) X.1 X.2.1 dX1_cutTangent_49 (by decide) ?_
        refine lv_lconst (v := lN 1) X.1 X.2.1 dX1_cutTangent_50 (by decide) ?_
        refine p_callI (b := q11) (As := [.long (lN 0), .long (lN 1)]) (rest := [.ref q11]) X (c_X0_init l g q11 0 1 (by decide) (by decide) (by decide)) ⟨mw_61, mw_62, mw_39, mw_63⟩ rfl sgX0_init ⟨rfl, rfl, ⟨by decide, by decide⟩, by decide, by decide⟩ (PP.one hq11) hX.1 (by rw [eq11]; exact hX0.1) rfl hl.1 rfl (Nat.le_of_ble_eq_true rfl) dX1_cutTangent_51 (fun H13 hkq11 hp => ?_)
        have keq11 := kq11.init (Nat.le_of_eq eq11.symm) hkq11
        have hX := hX0.tr keq11
        rw [show ((0 : Nat) : Rat) / ((1 : Nat) : Rat) = (0 : Rat) by decide +kernel] at hp
        have hP := PP.cons hp (PP.ext hP0 keq11)
        have hF := RF.ext hF0 keq11
        refine W.eq (g2 := F0 m 54 ls [.ref q11]) rfl ?_
        exact p_aret X hX (⟨_, rfl, by rw [tng, if_neg hB1, if_neg hB2, if_pos hB7]; exact hP.at 0 rfl⟩) ⟨by decide, by decide⟩ dX1_cutTangent_54
    ·
      refine lv_aload X.1 X.2.1 dX1_cutTangent_25 (lv_at hl 0 rfl) ?_
      exact p_aret X hX (⟨_, rfl, by rw [tng, if_neg hB1, if_pos hB2]; exact hP.at 0 rfl⟩) ⟨by decide, by decide⟩ dX1_cutTangent_27
  ·
    refine lv_aload X.1 X.2.1 dX1_cutTangent_13 (lv_at hl 0 rfl) ?_
    refine p_callV (C := RX0) (b := A k) (As := []) (rest := []) X (b_inv l g _ b1 p1 (by decide) (by decide)) ⟨mw_364, mw_365, mw_366, mw_39, mw_367⟩ sgX0_inverse ⟨rfl, rfl, ⟨by decide, by decide⟩, by decide, by decide⟩ (hP.at 0 rfl) rfl rfl (hP.sub [0] rfl) hX.1 rfl hl.1 rfl (Nat.le_of_ble_eq_true rfl) dX1_cutTangent_15 (fun v H14 hk15 hp => ?_)
    obtain ⟨r16, rfl, hr16⟩ := hp
    have hX := hX.tr hk15
    have hP := PP.ext hP hk15
    have hF := RF.ext hF hk15
    have hP := PP.cons hr16 hP
    refine W.eq (g2 := F0 m 18 ls [.ref r16]) rfl ?_
    exact p_aret X hX (⟨_, rfl, by rw [tng, if_pos hB1]; exact hP.at 0 rfl⟩) ⟨by decide, by decide⟩ dX1_cutTangent_18
set_option maxHeartbeats 4000000 in
set_option maxRecDepth 100000 in
theorem c_X1_peakHeight (l : Launch) (g : En) (o r : Nat) (A : Nat → Nat) (x1 y1 : Nat) (q : Nat → Rat) (hO : OK x1 y1 q) : PM l yX1_peakHeight cX1_peakHeight 5 (some (FieldType.object "RafterPlaces$Fraction")) { frames := 3, cells := 6, slots := 12, locals := 80 } g [.ref o] (fun H => RP g o r A x1 y1 q H) 6 12 (rF g (pk x1 y1 q)) := by
  refine PM.of (by decide) (Nat.le_of_ble_eq_true rfl) (fun p e s m below meth c ls X hG hl => ?_)
  obtain ⟨hP, hF⟩ := hG
  have b := hO.2.2.1
  have b1 := bd_s31 hO
  have b2 := bd_s02 hO
  have hX2 := hO.1.2
  have hY2 := hO.2.1.2
  have hl : lv_has ls 5 [(0, .ref o)] := hl
  have hX : hxt s.heap s.heap := hxt.rf
  have hP : PP g [ob o x1 y1 r, ar g r A] s.heap := hP
  refine lv_aload_n X.1 X.2.1 dX1_peakHeight_0 rfl (lv_at hl 0 rfl) ?_
  refine p_get (T := TX1) X uX1 (hP.at 0 rfl) rfl 2 (by decide) mw_79 rfl rfl dX1_peakHeight_1 ?_
  refine lv_iconst (v := nI 3) X.1 X.2.1 dX1_peakHeight_4 (by decide) ?_
  refine p_aald X (hP.at 1 rfl) (by decide) (by decide) (r := A 3) rfl dX1_peakHeight_5 ?_
  have hP := PP.cons (hF 3 (by decide)) hP
  refine lv_aload_n X.1 X.2.1 dX1_peakHeight_6 rfl (lv_at hl 0 rfl) ?_
  refine p_get (T := TX1) X uX1 (hP.at 1 rfl) rfl 2 (by decide) mw_79 rfl rfl dX1_peakHeight_7 ?_
  refine lv_iconst (v := nI 1) X.1 X.2.1 dX1_peakHeight_10 (by decide) ?_
  refine p_aald X (hP.at 2 rfl) (by decide) (by decide) (r := A 1) rfl dX1_peakHeight_11 ?_
  have hP := PP.cons (hF 1 (by decide)) hP
  refine p_callV (C := RX0) (b := A 3) (As := [.ref (A 1)]) (rest := []) X (b_plus l g _ _ (b 3 (by decide)) (b 1 (by decide)) (by decide) (by decide)) ⟨mw_328, mw_329, mw_330, mw_39, mw_331⟩ sgX0_plus ⟨rfl, rfl, ⟨by decide, by decide⟩, by decide, by decide⟩ (hP.at 1 rfl) rfl rfl (hP.sub [1, 0] rfl) hX.1 rfl hl.1 rfl (Nat.le_of_ble_eq_true rfl) dX1_peakHeight_12 (fun v H1 hk2 hp => ?_)
  obtain ⟨r3, rfl, hr3⟩ := hp
  have hX := hX.tr hk2
  have hP := PP.ext hP hk2
  have hF := RF.ext hF hk2
  have hP := PP.cons hr3 hP
  refine W.eq (g2 := F0 m 15 ls [.ref r3]) rfl ?_
  refine lv_astore_n (lv' := [(1, .ref r3), (0, .ref o)]) X.1 X.2.1 dX1_peakHeight_15 rfl hl (by decide) rfl (fun ls hl => ?_)
  refine lv_aload_n X.1 X.2.1 dX1_peakHeight_16 rfl (lv_at hl 1 rfl) ?_
  refine p_get (T := TX1) X uX1 (hP.at 3 rfl) rfl 2 (by decide) mw_79 rfl rfl dX1_peakHeight_17 ?_
  refine lv_iconst (v := nI 0) X.1 X.2.1 dX1_peakHeight_20 (by decide) ?_
  refine p_aald X (hP.at 4 rfl) (by decide) (by decide) (r := A 0) rfl dX1_peakHeight_21 ?_
  have hP := PP.cons (hF 0 (by decide)) hP
  refine lv_aload_n X.1 X.2.1 dX1_peakHeight_22 rfl (lv_at hl 1 rfl) ?_
  refine p_get (T := TX1) X uX1 (hP.at 4 rfl) rfl 2 (by decide) mw_79 rfl rfl dX1_peakHeight_23 ?_
  refine lv_iconst (v := nI 2) X.1 X.2.1 dX1_peakHeight_26 (by decide) ?_
  refine p_aald X (hP.at 5 rfl) (by decide) (by decide) (r := A 2) rfl dX1_peakHeight_27 ?_
  have hP := PP.cons (hF 2 (by decide)) hP
  refine p_callV (C := RX0) (b := A 0) (As := [.ref (A 2)]) (rest := []) X (b_plus l g _ _ (b 0 (by decide)) (b 2 (by decide)) (by decide) (by decide)) ⟨mw_328, mw_329, mw_330, mw_39, mw_331⟩ sgX0_plus ⟨rfl, rfl, ⟨by decide, by decide⟩, by decide, by decide⟩ (hP.at 1 rfl) rfl rfl (hP.sub [1, 0] rfl) hX.1 rfl hl.1 rfl (Nat.le_of_ble_eq_true rfl) dX1_peakHeight_28 (fun v H4 hk5 hp => ?_)
  obtain ⟨r6, rfl, hr6⟩ := hp
  have hX := hX.tr hk5
  have hP := PP.ext hP hk5
  have hF := RF.ext hF hk5
  have hP := PP.cons hr6 hP
  refine W.eq (g2 := F0 m 31 ls [.ref r6]) rfl ?_
  refine lv_astore_n (lv' := [(2, .ref r6), (1, .ref r3), (0, .ref o)]) X.1 X.2.1 dX1_peakHeight_31 rfl hl (by decide) rfl (fun ls hl => ?_)
  refine lv_aload_n X.1 X.2.1 dX1_peakHeight_32 rfl (lv_at hl 1 rfl) ?_
  refine p_get (T := TX0) X uX0 (hP.at 3 rfl) rfl 0 (by decide) mw_69 rfl rfl dX1_peakHeight_33 ?_
  refine lv_lconst (v := lN 0) X.1 X.2.1 dX1_peakHeight_36 (by decide) ?_
  refine q_Nne X (by have := b1.2.1; omega) (by decide) (tgt := 53) dX1_peakHeight_37 dX1_peakHeight_38 (by decide) (fun hB7 => ?_) (fun hB7 => ?_)
  ·
    have e0 : ¬ q 3 + q 1 = 0 := fun h9 => hB7 ((nu_eq0 b1.1).mpr h9)
    have p1 := pos_of b1.1 e0
    refine lv_aload_n X.1 X.2.1 dX1_peakHeight_53 rfl (lv_at hl 1 rfl) ?_
    refine p_callV (C := RX0) (b := r3) (As := []) (rest := []) X (b_inv l g _ b1 p1 (by decide) (by decide)) ⟨mw_364, mw_365, mw_366, mw_39, mw_367⟩ sgX0_inverse ⟨rfl, rfl, ⟨by decide, by decide⟩, by decide, by decide⟩ (hP.at 3 rfl) rfl rfl (hP.sub [3] rfl) hX.1 rfl hl.1 rfl (Nat.le_of_ble_eq_true rfl) dX1_peakHeight_54 (fun v H8 hk9 hp => ?_)
    obtain ⟨r10, rfl, hr10⟩ := hp
    have hX := hX.tr hk9
    have hP := PP.ext hP hk9
    have hF := RF.ext hF hk9
    have hP := PP.cons hr10 hP
    refine W.eq (g2 := F0 m 57 ls [.ref r10]) rfl ?_
    refine lv_aload_n X.1 X.2.1 dX1_peakHeight_57 rfl (lv_at hl 2 rfl) ?_
    refine p_get (T := TX1) X uX1 (hP.at 7 rfl) rfl 0 (by decide) mw_77 rfl rfl dX1_peakHeight_58 ?_
    refine p_callV (C := RX0) (b := r10) (As := [.long (lN x1)]) (rest := []) X (b_timesn l g _ (bd_inv b1 p1) hX2 (by decide) (by decide)) ⟨mw_342, mw_343, mw_344, mw_39, mw_345⟩ sgX0_times_ ⟨rfl, rfl, ⟨by decide, by decide⟩, by decide, by decide⟩ (hP.at 0 rfl) rfl rfl (hP.sub [0] rfl) hX.1 rfl hl.1 rfl (Nat.le_of_ble_eq_true rfl) dX1_peakHeight_61 (fun v H11 hk12 hp => ?_)
    obtain ⟨r13, rfl, hr13⟩ := hp
    have hX := hX.tr hk12
    have hP := PP.ext hP hk12
    have hF := RF.ext hF hk12
    have hP := PP.cons hr13 hP
    refine W.eq (g2 := F0 m 64 ls [.ref r13]) rfl ?_
    refine lv_astore_n (lv' := [(3, .ref r13), (2, .ref r6), (1, .ref r3), (0, .ref o)]) X.1 X.2.1 dX1_peakHeight_64 rfl hl (by decide) rfl (fun ls hl => ?_)
    refine lv_aload_n X.1 X.2.1 dX1_peakHeight_65 rfl (lv_at hl 1 rfl) ?_
    refine p_get (T := TX0) X uX0 (hP.at 2 rfl) rfl 0 (by decide) mw_69 rfl rfl dX1_peakHeight_66 ?_
    refine lv_lconst (v := lN 0) X.1 X.2.1 dX1_peakHeight_69 (by decide) ?_
    refine q_Nne X (by have := b2.2.1; omega) (by decide) (tgt := 76) dX1_peakHeight_70 dX1_peakHeight_71 (by decide) (fun hB14 => ?_) (fun hB14 => ?_)
    ·
      have e2 : ¬ q 0 + q 2 = 0 := fun h9 => hB14 ((nu_eq0 b2.1).mpr h9)
      have p2 := pos_of b2.1 e2
      refine lv_aload_n X.1 X.2.1 dX1_peakHeight_76 rfl (lv_at hl 1 rfl) ?_
      refine p_callV (C := RX0) (b := r6) (As := []) (rest := []) X (b_inv l g _ b2 p2 (by decide) (by decide)) ⟨mw_364, mw_365, mw_366, mw_39, mw_367⟩ sgX0_inverse ⟨rfl, rfl, ⟨by decide, by decide⟩, by decide, by decide⟩ (hP.at 2 rfl) rfl rfl (hP.sub [2] rfl) hX.1 rfl hl.1 rfl (Nat.le_of_ble_eq_true rfl) dX1_peakHeight_77 (fun v H15 hk16 hp => ?_)
      obtain ⟨r17, rfl, hr17⟩ := hp
      have hX := hX.tr hk16
      have hP := PP.ext hP hk16
      have hF := RF.ext hF hk16
      have hP := PP.cons hr17 hP
      refine W.eq (g2 := F0 m 80 ls [.ref r17]) rfl ?_
      refine lv_aload_n X.1 X.2.1 dX1_peakHeight_80 rfl (lv_at hl 3 rfl) ?_
      refine p_get (T := TX1) X uX1 (hP.at 9 rfl) rfl 1 (by decide) mw_78 rfl rfl dX1_peakHeight_81 ?_
      refine p_callV (C := RX0) (b := r17) (As := [.long (lN y1)]) (rest := []) X (b_timesn l g _ (bd_inv b2 p2) hY2 (by decide) (by decide)) ⟨mw_342, mw_343, mw_344, mw_39, mw_345⟩ sgX0_times_ ⟨rfl, rfl, ⟨by decide, by decide⟩, by decide, by decide⟩ (hP.at 0 rfl) rfl rfl (hP.sub [0] rfl) hX.1 rfl hl.1 rfl (Nat.le_of_ble_eq_true rfl) dX1_peakHeight_84 (fun v H18 hk19 hp => ?_)
      obtain ⟨r20, rfl, hr20⟩ := hp
      have hX := hX.tr hk19
      have hP := PP.ext hP hk19
      have hF := RF.ext hF hk19
      have hP := PP.cons hr20 hP
      refine W.eq (g2 := F0 m 87 ls [.ref r20]) rfl ?_
      refine lv_astore (lv' := [(4, .ref r20), (3, .ref r13), (2, .ref r6), (1, .ref r3), (0, .ref o)]) X.1 X.2.1 dX1_peakHeight_87 hl (by decide) rfl (fun ls hl => ?_)
      refine lv_aload_n X.1 X.2.1 dX1_peakHeight_89 rfl (lv_at hl 1 rfl) ?_
      refine lv_aload X.1 X.2.1 dX1_peakHeight_90 (lv_at hl 0 rfl) ?_
      refine p_callV (C := RX0) (b := r13) (As := [.ref r20]) (rest := []) X (b_less l g _ _ (bd_px hO p1) (bd_py hO p2) (by decide) (by decide)) ⟨mw_267, mw_268, mw_269, mw_39, mw_270⟩ sgX0_isLess ⟨rfl, rfl, ⟨by decide, by decide⟩, by decide, by decide⟩ (hP.at 2 rfl) rfl rfl (hP.sub [2, 0] rfl) hX.1 rfl hl.1 rfl (Nat.le_of_ble_eq_true rfl) dX1_peakHeight_92 (fun v H21 hk22 hp => ?_)
      obtain rfl := hp
      have hX := hX.tr hk22
      have hP := PP.ext hP hk22
      have hF := RF.ext hF hk22
      refine W.eq (g2 := F0 m 95 ls [.int (bI (decide ((q 3 + q 1)⁻¹ * (x1 : Rat) < (q 0 + q 2)⁻¹ * (y1 : Rat))))]) rfl ?_
      refine q_Beq X (tgt := 102) dX1_peakHeight_95 (by decide) (fun hB23 => ?_) (fun hB23 => ?_)
      ·
        refine lv_aload X.1 X.2.1 dX1_peakHeight_102 (lv_at hl 0 rfl) ?_
        exact p_aret X hX (⟨_, rfl, by rw [pk, if_neg e0, if_neg e2, if_neg (of_decide_eq_false hB23)]; exact hP.at 0 rfl⟩) ⟨by decide, by decide⟩ dX1_peakHeight_104
      ·
        refine lv_aload_n X.1 X.2.1 dX1_peakHeight_98 rfl (lv_at hl 1 rfl) ?_
        refine lv_goto (tgt := 104) X.1 X.2.1 dX1_peakHeight_99 (by decide) ?_
        exact p_aret X hX (⟨_, rfl, by rw [pk, if_neg e0, if_neg e2, if_pos (of_decide_eq_true hB23)]; exact hP.at 2 rfl⟩) ⟨by decide, by decide⟩ dX1_peakHeight_104
    ·
      have e2 : q 0 + q 2 = 0 := (nu_eq0 b2.1).mp hB14
      refine lv_aload_n X.1 X.2.1 dX1_peakHeight_74 rfl (lv_at hl 0 rfl) ?_
      exact p_aret X hX (⟨_, rfl, by rw [pk, if_neg e0, if_pos e2]; exact hP.at 0 rfl⟩) ⟨by decide, by decide⟩ dX1_peakHeight_75
  ·
    have e0 : q 3 + q 1 = 0 := (nu_eq0 b1.1).mp hB7
    have p2 := hO.pos e0
    refine lv_aload_n X.1 X.2.1 dX1_peakHeight_41 rfl (lv_at hl 0 rfl) ?_
    refine p_callV (C := RX0) (b := r6) (As := []) (rest := []) X (b_inv l g _ b2 p2 (by decide) (by decide)) ⟨mw_364, mw_365, mw_366, mw_39, mw_367⟩ sgX0_inverse ⟨rfl, rfl, ⟨by decide, by decide⟩, by decide, by decide⟩ (hP.at 0 rfl) rfl rfl (hP.sub [0] rfl) hX.1 rfl hl.1 rfl (Nat.le_of_ble_eq_true rfl) dX1_peakHeight_42 (fun v H24 hk25 hp => ?_)
    obtain ⟨r26, rfl, hr26⟩ := hp
    have hX := hX.tr hk25
    have hP := PP.ext hP hk25
    have hF := RF.ext hF hk25
    have hP := PP.cons hr26 hP
    refine W.eq (g2 := F0 m 45 ls [.ref r26]) rfl ?_
    refine lv_aload_n X.1 X.2.1 dX1_peakHeight_45 rfl (lv_at hl 2 rfl) ?_
    refine p_get (T := TX1) X uX1 (hP.at 7 rfl) rfl 1 (by decide) mw_78 rfl rfl dX1_peakHeight_46 ?_
    refine p_callV (C := RX0) (b := r26) (As := [.long (lN y1)]) (rest := []) X (b_timesn l g _ (bd_inv b2 p2) hY2 (by decide) (by decide)) ⟨mw_342, mw_343, mw_344, mw_39, mw_345⟩ sgX0_times_ ⟨rfl, rfl, ⟨by decide, by decide⟩, by decide, by decide⟩ (hP.at 0 rfl) rfl rfl (hP.sub [0] rfl) hX.1 rfl hl.1 rfl (Nat.le_of_ble_eq_true rfl) dX1_peakHeight_49 (fun v H27 hk28 hp => ?_)
    obtain ⟨r29, rfl, hr29⟩ := hp
    have hX := hX.tr hk28
    have hP := PP.ext hP hk28
    have hF := RF.ext hF hk28
    have hP := PP.cons hr29 hP
    refine W.eq (g2 := F0 m 52 ls [.ref r29]) rfl ?_
    exact p_aret X hX (⟨_, rfl, by rw [pk, if_pos e0]; exact hP.at 0 rfl⟩) ⟨by decide, by decide⟩ dX1_peakHeight_52
set_option maxHeartbeats 4000000 in
set_option maxRecDepth 100000 in
theorem c_X1_inAtPeak (l : Launch) (g : En) (o r : Nat) (A : Nat → Nat) (x1 y1 : Nat) (q : Nat → Rat) (k : Nat) (hO : OK x1 y1 q) (hk : k < 4) : PM l yX1_inAtPeak cX1_inAtPeak 2 (some (FieldType.object "RafterPlaces$Fraction")) { frames := 4, cells := 7, slots := 14, locals := 104 } g [.ref o, .int (nI k)] (fun H => RP g o r A x1 y1 q H) 7 14 (rF g (pk x1 y1 q * q k)) := by
  refine PM.of (by decide) (Nat.le_of_ble_eq_true rfl) (fun p e s m below meth c ls X hG hl => ?_)
  obtain ⟨hP, hF⟩ := hG
  have hl : lv_has ls 2 [(0, .ref o), (1, .int (nI k))] := hl
  have hX : hxt s.heap s.heap := hxt.rf
  have hP : PP g [ob o x1 y1 r, ar g r A] s.heap := hP
  refine lv_aload_n X.1 X.2.1 dX1_inAtPeak_0 rfl (lv_at hl 0 rfl) ?_
  refine p_callV (C := RX1) (b := o) (As := []) (rest := []) X (c_X1_peakHeight l g o r A x1 y1 q hO) ⟨mw_411, mw_413, mw_19, mw_38, mw_414⟩ sgX1_peakHeight ⟨rfl, rfl, ⟨by decide, by decide⟩, by decide, by decide⟩ (hP.at 0 rfl) rfl rfl (RP.of hP [0, 1] rfl hF) hX.1 rfl hl.1 rfl (Nat.le_of_ble_eq_true rfl) dX1_inAtPeak_1 (fun v H1 hk2 hp => ?_)
  obtain ⟨r3, rfl, hr3⟩ := hp
  have hX := hX.tr hk2
  have hP := PP.ext hP hk2
  have hF := RF.ext hF hk2
  have hP := PP.cons hr3 hP
  refine W.eq (g2 := F0 m 4 ls [.ref r3]) rfl ?_
  refine lv_aload_n X.1 X.2.1 dX1_inAtPeak_4 rfl (lv_at hl 0 rfl) ?_
  refine p_get (T := TX1) X uX1 (hP.at 1 rfl) rfl 2 (by decide) mw_79 rfl rfl dX1_inAtPeak_5 ?_
  refine lv_iload_n X.1 X.2.1 dX1_inAtPeak_8 rfl (lv_at hl 1 rfl) ?_
  refine p_aald X (hP.at 2 rfl) hk (by decide) (r := A k) rfl dX1_inAtPeak_9 ?_
  have hP := PP.cons (hF k hk) hP
  refine p_callV (C := RX0) (b := r3) (As := [.ref (A k)]) (rest := []) X (b_times l g _ _ (bd_pk hO) (hO.2.2.1 k hk) (by decide) (by decide)) ⟨mw_368, mw_369, mw_370, mw_39, mw_371⟩ sgX0_times ⟨rfl, rfl, ⟨by decide, by decide⟩, by decide, by decide⟩ (hP.at 1 rfl) rfl rfl (hP.sub [1, 0] rfl) hX.1 rfl hl.1 rfl (Nat.le_of_ble_eq_true rfl) dX1_inAtPeak_10 (fun v H4 hk5 hp => ?_)
  obtain ⟨r6, rfl, hr6⟩ := hp
  have hX := hX.tr hk5
  have hP := PP.ext hP hk5
  have hF := RF.ext hF hk5
  have hP := PP.cons hr6 hP
  refine W.eq (g2 := F0 m 13 ls [.ref r6]) rfl ?_
  exact p_aret X hX (⟨_, rfl, hP.at 0 rfl⟩) ⟨by decide, by decide⟩ dX1_inAtPeak_13
set_option maxHeartbeats 4000000 in
set_option maxRecDepth 100000 in
theorem c_X1_ridgeBound (l : Launch) (g : En) (o r : Nat) (A : Nat → Nat) (x1 y1 : Nat) (q : Nat → Rat) (k : Nat) (hO : OK x1 y1 q) (hk : k < 4) : PM l yX1_ridgeBound cX1_ridgeBound 2 (some (FieldType.object "RafterPlaces$Fraction")) { frames := 5, cells := 8, slots := 16, locals := 125 } g [.ref o, .int (nI k)] (fun H => RP g o r A x1 y1 q H) 8 16 (rF g (rdg x1 y1 q k)) := by
  refine PM.of (by decide) (Nat.le_of_ble_eq_true rfl) (fun p e s m below meth c ls X hG hl => ?_)
  obtain ⟨hP, hF⟩ := hG
  have hX2 := hO.1.2
  have hY2 := hO.2.1.2
  have hl : lv_has ls 2 [(0, .ref o), (1, .int (nI k))] := hl
  have hX : hxt s.heap s.heap := hxt.rf
  have hP : PP g [ob o x1 y1 r, ar g r A] s.heap := hP
  refine lv_iload_n X.1 X.2.1 dX1_ridgeBound_0 rfl (lv_at hl 1 rfl) ?_
  rcases (show k = 0 ∨ k = 1 ∨ k = 2 ∨ k = 3 by omega) with rfl | rfl | rfl | rfl
  ·
    refine lv_tableIn (tgt := 28) X.1 X.2.1 dX1_ridgeBound_1 (by decide) (by decide) rfl (by decide) ?_
    refine lv_aload_n X.1 X.2.1 dX1_ridgeBound_28 rfl (lv_at hl 0 rfl) ?_
    refine lv_iconst (v := nI 3) X.1 X.2.1 dX1_ridgeBound_29 (by decide) ?_
    refine p_callV (C := RX1) (b := o) (As := [.int (nI 3)]) (rest := []) X (c_X1_inAtPeak l g o r A x1 y1 q 3 hO (by decide)) ⟨mw_407, mw_409, mw_18, mw_38, mw_410⟩ sgX1_inAtPeak ⟨rfl, rfl, ⟨by decide, by decide⟩, by decide, by decide⟩ (hP.at 0 rfl) rfl rfl (RP.of hP [0, 1] rfl hF) hX.1 rfl hl.1 rfl (Nat.le_of_ble_eq_true rfl) dX1_ridgeBound_30 (fun v H1 hk2 hp => ?_)
    obtain ⟨r3, rfl, hr3⟩ := hp
    have hX := hX.tr hk2
    have hP := PP.ext hP hk2
    have hF := RF.ext hF hk2
    have hP := PP.cons hr3 hP
    refine W.eq (g2 := F0 m 33 ls [.ref r3]) rfl ?_
    exact p_aret X hX (⟨_, rfl, hP.at 0 rfl⟩) ⟨by decide, by decide⟩ dX1_ridgeBound_33
  ·
    refine lv_tableIn (tgt := 34) X.1 X.2.1 dX1_ridgeBound_1 (by decide) (by decide) rfl (by decide) ?_
    refine lv_aload_n X.1 X.2.1 dX1_ridgeBound_34 rfl (lv_at hl 0 rfl) ?_
    refine lv_iconst (v := nI 1) X.1 X.2.1 dX1_ridgeBound_35 (by decide) ?_
    refine p_callV (C := RX1) (b := o) (As := [.int (nI 1)]) (rest := []) X (c_X1_inAtPeak l g o r A x1 y1 q 1 hO (by decide)) ⟨mw_407, mw_409, mw_18, mw_38, mw_410⟩ sgX1_inAtPeak ⟨rfl, rfl, ⟨by decide, by decide⟩, by decide, by decide⟩ (hP.at 0 rfl) rfl rfl (RP.of hP [0, 1] rfl hF) hX.1 rfl hl.1 rfl (Nat.le_of_ble_eq_true rfl) dX1_ridgeBound_36 (fun v H4 hk5 hp => ?_)
    obtain ⟨r6, rfl, hr6⟩ := hp
    have hX := hX.tr hk5
    have hP := PP.ext hP hk5
    have hF := RF.ext hF hk5
    have hP := PP.cons hr6 hP
    refine W.eq (g2 := F0 m 39 ls [.ref r6]) rfl ?_
    refine lv_aload_n X.1 X.2.1 dX1_ridgeBound_39 rfl (lv_at hl 0 rfl) ?_
    refine p_get (T := TX1) X uX1 (hP.at 1 rfl) rfl 0 (by decide) mw_77 rfl rfl dX1_ridgeBound_40 ?_
    refine p_callV (C := RX0) (b := r6) (As := [.long (lN x1)]) (rest := []) X (b_sub l g _ (bd_in hO (k := 1) (by decide)) (pk_side hO (k := 1) (by decide)) hX2 (by decide) (by decide)) ⟨mw_433, mw_434, mw_435, mw_39, mw_436⟩ sgX0_takenFrom ⟨rfl, rfl, ⟨by decide, by decide⟩, by decide, by decide⟩ (hP.at 0 rfl) rfl rfl (hP.sub [0] rfl) hX.1 rfl hl.1 rfl (Nat.le_of_ble_eq_true rfl) dX1_ridgeBound_43 (fun v H7 hk8 hp => ?_)
    obtain ⟨r9, rfl, hr9⟩ := hp
    have hX := hX.tr hk8
    have hP := PP.ext hP hk8
    have hF := RF.ext hF hk8
    have hP := PP.cons hr9 hP
    refine W.eq (g2 := F0 m 46 ls [.ref r9]) rfl ?_
    exact p_aret X hX (⟨_, rfl, hP.at 0 rfl⟩) ⟨by decide, by decide⟩ dX1_ridgeBound_46
  ·
    refine lv_tableIn (tgt := 47) X.1 X.2.1 dX1_ridgeBound_1 (by decide) (by decide) rfl (by decide) ?_
    refine lv_aload_n X.1 X.2.1 dX1_ridgeBound_47 rfl (lv_at hl 0 rfl) ?_
    refine lv_iconst (v := nI 0) X.1 X.2.1 dX1_ridgeBound_48 (by decide) ?_
    refine p_callV (C := RX1) (b := o) (As := [.int (nI 0)]) (rest := []) X (c_X1_inAtPeak l g o r A x1 y1 q 0 hO (by decide)) ⟨mw_407, mw_409, mw_18, mw_38, mw_410⟩ sgX1_inAtPeak ⟨rfl, rfl, ⟨by decide, by decide⟩, by decide, by decide⟩ (hP.at 0 rfl) rfl rfl (RP.of hP [0, 1] rfl hF) hX.1 rfl hl.1 rfl (Nat.le_of_ble_eq_true rfl) dX1_ridgeBound_49 (fun v H10 hk11 hp => ?_)
    obtain ⟨r12, rfl, hr12⟩ := hp
    have hX := hX.tr hk11
    have hP := PP.ext hP hk11
    have hF := RF.ext hF hk11
    have hP := PP.cons hr12 hP
    refine W.eq (g2 := F0 m 52 ls [.ref r12]) rfl ?_
    exact p_aret X hX (⟨_, rfl, hP.at 0 rfl⟩) ⟨by decide, by decide⟩ dX1_ridgeBound_52
  ·
    refine lv_tableOut (tgt := 53) X.1 X.2.1 dX1_ridgeBound_1 (by decide) (by decide) ?_
    refine lv_aload_n X.1 X.2.1 dX1_ridgeBound_53 rfl (lv_at hl 0 rfl) ?_
    refine lv_iconst (v := nI 2) X.1 X.2.1 dX1_ridgeBound_54 (by decide) ?_
    refine p_callV (C := RX1) (b := o) (As := [.int (nI 2)]) (rest := []) X (c_X1_inAtPeak l g o r A x1 y1 q 2 hO (by decide)) ⟨mw_407, mw_409, mw_18, mw_38, mw_410⟩ sgX1_inAtPeak ⟨rfl, rfl, ⟨by decide, by decide⟩, by decide, by decide⟩ (hP.at 0 rfl) rfl rfl (RP.of hP [0, 1] rfl hF) hX.1 rfl hl.1 rfl (Nat.le_of_ble_eq_true rfl) dX1_ridgeBound_55 (fun v H13 hk14 hp => ?_)
    obtain ⟨r15, rfl, hr15⟩ := hp
    have hX := hX.tr hk14
    have hP := PP.ext hP hk14
    have hF := RF.ext hF hk14
    have hP := PP.cons hr15 hP
    refine W.eq (g2 := F0 m 58 ls [.ref r15]) rfl ?_
    refine lv_aload_n X.1 X.2.1 dX1_ridgeBound_58 rfl (lv_at hl 0 rfl) ?_
    refine p_get (T := TX1) X uX1 (hP.at 1 rfl) rfl 1 (by decide) mw_78 rfl rfl dX1_ridgeBound_59 ?_
    refine p_callV (C := RX0) (b := r15) (As := [.long (lN y1)]) (rest := []) X (b_sub l g _ (bd_in hO (k := 2) (by decide)) (pk_side hO (k := 2) (by decide)) hY2 (by decide) (by decide)) ⟨mw_433, mw_434, mw_435, mw_39, mw_436⟩ sgX0_takenFrom ⟨rfl, rfl, ⟨by decide, by decide⟩, by decide, by decide⟩ (hP.at 0 rfl) rfl rfl (hP.sub [0] rfl) hX.1 rfl hl.1 rfl (Nat.le_of_ble_eq_true rfl) dX1_ridgeBound_62 (fun v H16 hk17 hp => ?_)
    obtain ⟨r18, rfl, hr18⟩ := hp
    have hX := hX.tr hk17
    have hP := PP.ext hP hk17
    have hF := RF.ext hF hk17
    have hP := PP.cons hr18 hP
    refine W.eq (g2 := F0 m 65 ls [.ref r18]) rfl ?_
    exact p_aret X hX (⟨_, rfl, hP.at 0 rfl⟩) ⟨by decide, by decide⟩ dX1_ridgeBound_65
set_option maxHeartbeats 4000000 in
set_option maxRecDepth 100000 in
theorem c_X1_twiceArea (l : Launch) (g : En) (o r : Nat) (A : Nat → Nat) (x1 y1 : Nat) (q : Nat → Rat) (k : Nat) (hO : OK x1 y1 q) (hk : k < 4) : PM l yX1_twiceArea cX1_twiceArea 5 (some (FieldType.object "RafterPlaces$Fraction")) { frames := 4, cells := 11, slots := 22, locals := 104 } g [.ref o, .int (nI k)] (fun H => RP g o r A x1 y1 q H) 11 22 (rF g (are x1 y1 q k)) := by
  refine PM.of (by decide) (Nat.le_of_ble_eq_true rfl) (fun p e s m below meth c ls X hG hl => ?_)
  obtain ⟨hP, hF⟩ := hG
  have b := hO.2.2.1
  have hb1 := behind_lt k
  have hb2 := opp_lt (behind k)
  have hsl := slen_le hO k
  have bb := bd_add (b _ hb1) (b _ hb2)
  have bp := bd_mul (bd_pk hO) bb
  have hle : pk x1 y1 q * (q (behind k) + q (opp (behind k))) ≤ ((2 * slen x1 y1 k : Nat) : Rat) := Rat.le_trans (pk_bes hO hk) (Rat.natCast_le_natCast.mpr (by omega))
  have bs := bd_sub bp hle
  have hl : lv_has ls 5 [(0, .ref o), (1, .int (nI k))] := hl
  have hX : hxt s.heap s.heap := hxt.rf
  have hP : PP g [ob o x1 y1 r, ar g r A] s.heap := hP
  refine lv_aload_n X.1 X.2.1 dX1_twiceArea_0 rfl (lv_at hl 0 rfl) ?_
  refine p_callV (C := RX1) (b := o) (As := []) (rest := []) X (c_X1_peakHeight l g o r A x1 y1 q hO) ⟨mw_411, mw_413, mw_19, mw_38, mw_414⟩ sgX1_peakHeight ⟨rfl, rfl, ⟨by decide, by decide⟩, by decide, by decide⟩ (hP.at 0 rfl) rfl rfl (RP.of hP [0, 1] rfl hF) hX.1 rfl hl.1 rfl (Nat.le_of_ble_eq_true rfl) dX1_twiceArea_1 (fun v H1 hk2 hp => ?_)
  obtain ⟨r3, rfl, hr3⟩ := hp
  have hX := hX.tr hk2
  have hP := PP.ext hP hk2
  have hF := RF.ext hF hk2
  have hP := PP.cons hr3 hP
  refine W.eq (g2 := F0 m 4 ls [.ref r3]) rfl ?_
  refine lv_astore_n (lv' := [(2, .ref r3), (0, .ref o), (1, .int (nI k))]) X.1 X.2.1 dX1_twiceArea_4 rfl hl (by decide) rfl (fun ls hl => ?_)
  refine lv_aload_n X.1 X.2.1 dX1_twiceArea_5 rfl (lv_at hl 1 rfl) ?_
  refine p_get (T := TX1) X uX1 (hP.at 1 rfl) rfl 2 (by decide) mw_79 rfl rfl dX1_twiceArea_6 ?_
  refine lv_iload_n X.1 X.2.1 dX1_twiceArea_9 rfl (lv_at hl 2 rfl) ?_
  refine p_callS (As := [.int (nI k)]) (rest := [.ref r]) X (c_X1_sideBehind l g k hk) ⟨mw_404, mw_405, mw_38, mw_406⟩ sgX1_sideBehind ⟨rfl, rfl, ⟨by decide, by decide⟩, by decide, by decide⟩ (trivial) hX.1 rfl hl.1 rfl (Nat.le_of_ble_eq_true rfl) dX1_twiceArea_10 (fun v H4 hk5 hp => ?_)
  obtain rfl := hp
  have hX := hX.tr hk5
  have hP := PP.ext hP hk5
  have hF := RF.ext hF hk5
  refine W.eq (g2 := F0 m 13 ls [.int (nI (behind k)), .ref r]) rfl ?_
  refine p_aald X (hP.at 2 rfl) hb1 (by decide) (r := A (behind k)) rfl dX1_twiceArea_13 ?_
  have hP := PP.cons (hF (behind k) hb1) hP
  refine lv_aload_n X.1 X.2.1 dX1_twiceArea_14 rfl (lv_at hl 1 rfl) ?_
  refine p_get (T := TX1) X uX1 (hP.at 2 rfl) rfl 2 (by decide) mw_79 rfl rfl dX1_twiceArea_15 ?_
  refine lv_iload_n X.1 X.2.1 dX1_twiceArea_18 rfl (lv_at hl 2 rfl) ?_
  refine p_callS (As := [.int (nI k)]) (rest := [.ref r, .ref (A (behind k))]) X (c_X1_sideBehind l g k hk) ⟨mw_404, mw_405, mw_38, mw_406⟩ sgX1_sideBehind ⟨rfl, rfl, ⟨by decide, by decide⟩, by decide, by decide⟩ (trivial) hX.1 rfl hl.1 rfl (Nat.le_of_ble_eq_true rfl) dX1_twiceArea_19 (fun v H6 hk7 hp => ?_)
  obtain rfl := hp
  have hX := hX.tr hk7
  have hP := PP.ext hP hk7
  have hF := RF.ext hF hk7
  refine W.eq (g2 := F0 m 22 ls [.int (nI (behind k)), .ref r, .ref (A (behind k))]) rfl ?_
  refine p_callS (As := [.int (nI (behind k))]) (rest := [.ref r, .ref (A (behind k))]) X (c_X1_opposite l g (behind k) hb1) ⟨mw_321, mw_322, mw_38, mw_323⟩ sgX1_opposite ⟨rfl, rfl, ⟨by decide, by decide⟩, by decide, by decide⟩ (trivial) hX.1 rfl hl.1 rfl (Nat.le_of_ble_eq_true rfl) dX1_twiceArea_22 (fun v H8 hk9 hp => ?_)
  obtain rfl := hp
  have hX := hX.tr hk9
  have hP := PP.ext hP hk9
  have hF := RF.ext hF hk9
  refine W.eq (g2 := F0 m 25 ls [.int (nI (opp (behind k))), .ref r, .ref (A (behind k))]) rfl ?_
  refine p_aald X (hP.at 3 rfl) hb2 (by decide) (r := A (opp (behind k))) rfl dX1_twiceArea_25 ?_
  have hP := PP.cons (hF (opp (behind k)) hb2) hP
  refine p_callV (C := RX0) (b := A (behind k)) (As := [.ref (A (opp (behind k)))]) (rest := []) X (b_plus l g _ _ (b _ hb1) (b _ hb2) (by decide) (by decide)) ⟨mw_328, mw_329, mw_330, mw_39, mw_331⟩ sgX0_plus ⟨rfl, rfl, ⟨by decide, by decide⟩, by decide, by decide⟩ (hP.at 1 rfl) rfl rfl (hP.sub [1, 0] rfl) hX.1 rfl hl.1 rfl (Nat.le_of_ble_eq_true rfl) dX1_twiceArea_26 (fun v H10 hk11 hp => ?_)
  obtain ⟨r12, rfl, hr12⟩ := hp
  have hX := hX.tr hk11
  have hP := PP.ext hP hk11
  have hF := RF.ext hF hk11
  have hP := PP.cons hr12 hP
  refine W.eq (g2 := F0 m 29 ls [.ref r12]) rfl ?_
  refine lv_astore_n (lv' := [(3, .ref r12), (2, .ref r3), (0, .ref o), (1, .int (nI k))]) X.1 X.2.1 dX1_twiceArea_29 rfl hl (by decide) rfl (fun ls hl => ?_)
  refine lv_aload_n X.1 X.2.1 dX1_twiceArea_30 rfl (lv_at hl 1 rfl) ?_
  refine lv_aload_n X.1 X.2.1 dX1_twiceArea_31 rfl (lv_at hl 0 rfl) ?_
  refine p_callV (C := RX0) (b := r3) (As := [.ref r12]) (rest := []) X (b_times l g _ _ (bd_pk hO) bb (by decide) (by decide)) ⟨mw_368, mw_369, mw_370, mw_39, mw_371⟩ sgX0_times ⟨rfl, rfl, ⟨by decide, by decide⟩, by decide, by decide⟩ (hP.at 3 rfl) rfl rfl (hP.sub [3, 0] rfl) hX.1 rfl hl.1 rfl (Nat.le_of_ble_eq_true rfl) dX1_twiceArea_32 (fun v H13 hk14 hp => ?_)
  obtain ⟨r15, rfl, hr15⟩ := hp
  have hX := hX.tr hk14
  have hP := PP.ext hP hk14
  have hF := RF.ext hF hk14
  have hP := PP.cons hr15 hP
  refine W.eq (g2 := F0 m 35 ls [.ref r15]) rfl ?_
  refine lv_ldc2 (v := 2) X.1 X.2.1 X.2.2.2.1 (X.2.2.2.2.1 _ (List.mem_cons_of_mem _ mw_448)) dX1_twiceArea_35 ?_
  refine w_l (v' := lN 2) (by decide) ?_
  refine lv_aload_n X.1 X.2.1 dX1_twiceArea_38 rfl (lv_at hl 2 rfl) ?_
  refine lv_iload_n X.1 X.2.1 dX1_twiceArea_39 rfl (lv_at hl 3 rfl) ?_
  refine p_callV (C := RX1) (b := o) (As := [.int (nI k)]) (rest := [.long (lN 2), .ref r15]) X (c_X1_sideLength l g o r A x1 y1 q k hk) ⟨mw_295, mw_297, mw_10, mw_38, mw_298⟩ sgX1_sideLength ⟨rfl, rfl, ⟨by decide, by decide⟩, by decide, by decide⟩ (hP.at 5 rfl) rfl rfl (RP.of hP [5, 6] rfl hF) hX.1 rfl hl.1 rfl (Nat.le_of_ble_eq_true rfl) dX1_twiceArea_40 (fun v H16 hk17 hp => ?_)
  obtain rfl := hp
  have hX := hX.tr hk17
  have hP := PP.ext hP hk17
  have hF := RF.ext hF hk17
  refine W.eq (g2 := F0 m 43 ls [.long (lN (slen x1 y1 k)), .long (lN 2), .ref r15]) rfl ?_
  refine lv_lmul X.1 X.2.1 dX1_twiceArea_43 ?_
  refine w_l (lN_mul _ _) ?_
  refine p_callV (C := RX0) (b := r15) (As := [.long (lN (2 * (slen x1 y1 k)))]) (rest := []) X (b_sub l g _ bp hle (show 2 * slen x1 y1 k ≤ 4000 by omega) (by decide) (by decide)) ⟨mw_433, mw_434, mw_435, mw_39, mw_436⟩ sgX0_takenFrom ⟨rfl, rfl, ⟨by decide, by decide⟩, by decide, by decide⟩ (hP.at 0 rfl) rfl rfl (hP.sub [0] rfl) hX.1 rfl hl.1 rfl (Nat.le_of_ble_eq_true rfl) dX1_twiceArea_44 (fun v H18 hk19 hp => ?_)
  obtain ⟨r20, rfl, hr20⟩ := hp
  have hX := hX.tr hk19
  have hP := PP.ext hP hk19
  have hF := RF.ext hF hk19
  have hP := PP.cons hr20 hP
  refine W.eq (g2 := F0 m 47 ls [.ref r20]) rfl ?_
  refine lv_astore (lv' := [(4, .ref r20), (3, .ref r12), (2, .ref r3), (0, .ref o), (1, .int (nI k))]) X.1 X.2.1 dX1_twiceArea_47 hl (by decide) rfl (fun ls hl => ?_)
  refine lv_aload_n X.1 X.2.1 dX1_twiceArea_49 rfl (lv_at hl 2 rfl) ?_
  refine lv_aload_n X.1 X.2.1 dX1_twiceArea_50 rfl (lv_at hl 3 rfl) ?_
  refine p_get (T := TX1) X uX1 (hP.at 6 rfl) rfl 2 (by decide) mw_79 rfl rfl dX1_twiceArea_51 ?_
  refine lv_iload_n X.1 X.2.1 dX1_twiceArea_54 rfl (lv_at hl 4 rfl) ?_
  refine p_aald X (hP.at 7 rfl) hk (by decide) (r := A k) rfl dX1_twiceArea_55 ?_
  have hP := PP.cons (hF k hk) hP
  refine p_callV (C := RX0) (b := r3) (As := [.ref (A k)]) (rest := []) X (b_times l g _ _ (bd_pk hO) (b k hk) (by decide) (by decide)) ⟨mw_368, mw_369, mw_370, mw_39, mw_371⟩ sgX0_times ⟨rfl, rfl, ⟨by decide, by decide⟩, by decide, by decide⟩ (hP.at 6 rfl) rfl rfl (hP.sub [6, 0] rfl) hX.1 rfl hl.1 rfl (Nat.le_of_ble_eq_true rfl) dX1_twiceArea_56 (fun v H21 hk22 hp => ?_)
  obtain ⟨r23, rfl, hr23⟩ := hp
  have hX := hX.tr hk22
  have hP := PP.ext hP hk22
  have hF := RF.ext hF hk22
  have hP := PP.cons hr23 hP
  refine W.eq (g2 := F0 m 59 ls [.ref r23]) rfl ?_
  refine lv_aload X.1 X.2.1 dX1_twiceArea_59 (lv_at hl 0 rfl) ?_
  have bs2 : bd (((2 * slen x1 y1 k : Nat) : Rat) - pk x1 y1 q * (q (behind k) + q (opp (behind k)))) 1280000000 320000 := bs.mono (by omega) (by decide)
  refine p_callV (C := RX0) (b := r23) (As := [.ref r20]) (rest := []) X (b_times l g _ _ (bd_in hO hk) bs2 (by decide) (by decide)) ⟨mw_368, mw_369, mw_370, mw_39, mw_371⟩ sgX0_times ⟨rfl, rfl, ⟨by decide, by decide⟩, by decide, by decide⟩ (hP.at 0 rfl) rfl rfl (hP.sub [0, 2] rfl) hX.1 rfl hl.1 rfl (Nat.le_of_ble_eq_true rfl) dX1_twiceArea_61 (fun v H24 hk25 hp => ?_)
  obtain ⟨r26, rfl, hr26⟩ := hp
  have hX := hX.tr hk25
  have hP := PP.ext hP hk25
  have hF := RF.ext hF hk25
  have hP := PP.cons hr26 hP
  refine W.eq (g2 := F0 m 64 ls [.ref r26]) rfl ?_
  exact p_aret X hX (⟨_, rfl, hP.at 0 rfl⟩) ⟨by decide, by decide⟩ dX1_twiceArea_64
end
section
/-! exceptions: what the launch gives of the throwables, and methods that return or throw, changing no old cell -/
abbrev eA : String := "java/lang/ArrayIndexOutOfBoundsException"
abbrev eS : String := "java/lang/IllegalStateException"
abbrev eG : String := "java/lang/IllegalArgumentException"
def NGd : List MethodName := [Bundle.initS "java/lang/IndexOutOfBoundsException", Bundle.initS "java/lang/RuntimeException", Bundle.initS "java/lang/Exception", Bundle.initS Bundle.tN]
def NG : List Cond := NGd.map Cond.declares ++ [eA, eS, eG].map (fun x => Cond.castable x x)
theorem NG_tbl : ∀ w ∈ NG, w ∈ lw_tbl := by decide +kernel
theorem NG_on : ∀ w ∈ NG, w.onTables = true := by decide +kernel
theorem NG_warm {s U : State} (hW : s.WarmedH U.vm) (h : ∀ w ∈ NG, va_Nw w s) : ∀ w ∈ NG, va_Nw w U := fun w hw => by
  rcases List.mem_append.mp hw with h1 | h1
  · obtain ⟨x, -, rfl⟩ := List.mem_map.mp h1
    exact va_Nw.warmD hW (h _ hw)
  · obtain ⟨x, -, rfl⟩ := List.mem_map.mp h1
    exact va_Nw.warmC hW (h _ hw)
def ZZ (n d : String) (U : State) : Prop := vx_Zq Bundle.tN n d (fun q => U.heap.size ≤ q) U U.heap
def NC (U : State) : Prop := va_Nc eS eA U ∧ va_Nc eG eA U ∧ va_Nc eG eS U
def EX (U : State) : Prop := ZZ "UNASSIGNED_STACK" Bundle.steD U ∧ ZZ "SUPPRESSED_SENTINEL" Bundle.listD U ∧ (∀ w ∈ NG, va_Nw w U) ∧ NC U ∧
  (∃ a, vk_R RX1 130 "there is no such side, part, cut, end or hip" a U) ∧ (∃ a, vk_R RX1 137 "the number is not as said" a U) ∧ (∃ a, vk_R RX1 146 "the side is a gable" a U) ∧ ∃ a, vk_R RX1 149 "all other sides are gables" a U
theorem ZZ.at {n d : String} {s U : State} (h : ZZ n d s) (hW : s.WarmedH U.vm) (hk : hxt s.heap U.heap) : ZZ n d U := by
  have h1 : vx_Zq Bundle.tN n d (fun q => s.heap.size ≤ q) s U.heap := vx_Zq.kept h (fun a ha _ => hk.2 a ha)
  exact vx_Zq.moved hW.alike (h1.narrow (fun q hq => Nat.le_trans hk.1 hq))
theorem EX.at {s U : State} (h : EX s) (hW : s.WarmedH U.vm) (hk : hxt s.heap U.heap) : EX U := by
  obtain ⟨h1, h2, h3, h4, ⟨a5, h5⟩, ⟨a6, h6⟩, ⟨a7, h7⟩, ⟨a8, h8⟩⟩ := h
  exact ⟨h1.at hW hk, h2.at hW hk, NG_warm hW h3, ⟨h4.1.moved hW.alike, h4.2.1.moved hW.alike, h4.2.2.moved hW.alike⟩, ⟨a5, vk_R.warm hW h5⟩, ⟨a6, vk_R.warm hW h6⟩, ⟨a7, vk_R.warm hW h7⟩, ⟨a8, vk_R.warm hW h8⟩⟩
theorem EX.calling {U : State} {f : JFrame} {mk : MethodId} {a : Array Value} (h : EX U) : EX (U.calling f mk a) := by
  have hW : U.WarmedH (U.calling f mk a).vm := State.WarmedH.refl U
  exact EX.at h hW (show hxt U.heap (U.calling f mk a).heap from hxt.rf)
def xPc (g : En) (av : List Value) (G : Heap → Prop) (sz : Nat) : Array Value → State → Prop := fun v U => v = av.toArray ∧ U.heap.size = sz ∧ G U.heap ∧ KK g U ∧ EX U
def xQ (px : String → Prop) : String → State → State → Prop := fun E st t => hxt st.heap t.heap ∧ px E
def XM (l : Launch) (y : MethodName) (cy : ByteArray) (nl : Nat) (ret : Option FieldType) (rm : Room) (g : En) (av : List Value) (G : Heap → Prop) (mc ms : Nat) (post : Option Value → Heap → Prop) (px : String → Prop) : Prop :=
  ∀ sz : Nat, vx_Met l y (Cond.code y cy nl ret :: tb) rm (xPc g av G sz) (pQ post) (xQ px) mc ms (fun q => sz ≤ q)
theorem xPc_blind {g : En} {av : List Value} {G : Heap → Prop} {sz : Nat} : FrameBlind (xPc g av G sz) := fun a U f mk q => by
  obtain ⟨q0, q1, q2, qK, qE⟩ := q
  exact ⟨q0, q1, q2, va_K.moved (u := U) (U := U.calling f mk a) (Vm.Alike.refl U.vm) qK, qE.calling⟩
theorem XM.of {l : Launch} {y : MethodName} {cy : ByteArray} {nl : Nat} {ret : Option FieldType} {rm : Room} {g : En} {av : List Value} {G : Heap → Prop} {mc ms : Nat} {post : Option Value → Heap → Prop} {px : String → Prop} (hy : plainName y.cls = true) (hav : (lg_sl av).length ≤ nl)
    (body : ∀ (p : Program) (e : Env) (s : State) (m : MethodId) (below : List Frame) (meth : Method) (c : Code) (ls : Array Slot), CX p s m av.toArray meth c y cy nl ret g → (∀ x ∈ c.exceptionTable.toList, False) → EX s → G s.heap → lv_has ls nl (lv_args 0 av) →
      W p l e rm s m av.toArray below meth c s.heap [] 0 0 (vx_MQ below (pQ post) (xQ px) av.toArray s mc ms (fun q => s.heap.size ≤ q)) (F0 m 0 ls [])) : XM l y cy nl ret rm g av G mc ms post px := by
  intro sz
  refine vx_ofW (cc := cy) (maxL := nl) (ret := ret) hy rfl ?_
  intro p e s m args below meth c s₁ B hml hne hv
  obtain ⟨rfl, hsz, hG, hK, hE⟩ := hv
  subst hsz
  have hts := atoms_spec (ws := Cond.code y cy nl ret :: tb) B.pre
  rw [lg_entry_eq]
  exact body p e s m below meth c _ ⟨B.exec, B.bytes, hml, findClass_of_methodNamed B.named, hts, B.returns, B.notSynchronized, hK, fun h => (name_of_methodNamed B.named B.method).1.trans h, B.noHandlers (hts _ List.mem_cons_self)⟩ hne hE hG (lv_entry av hav)
section XW
variable {p : Program} {l : Launch} {e : Env} {R : Room} {s : State} {m : MethodId} {args : Array Value} {below : List Frame} {meth : Method} {c : Code} {H : Heap} {locs : List Loc} {cells slots : Nat} {Q : State → Prop} {pc : Nat} {ls : Array Slot} {rest st0 : List Value} {g : En}
variable {y y' : MethodName} {cy cy' : ByteArray} {nl nl' : Nat} {ret ret' : Option FieldType}
variable {mc ms n idx : Nat} {post : Option Value → Heap → Prop} {px : String → Prop} {a : Array Value} {rm : Room} {G : Heap → Prop} {b : Nat} {As : List Value} {C : String}
theorem x_call (hr : vx_Run p l e R s m args below meth c H locs cells slots mc ms (F0 m pc ls st0) rest (pQ post a) (xQ px) (fun q => H.size ≤ q)) (hs : s.heap.size ≤ H.size)
    (kx : ∀ (E : String) (ce : Cell) (q9 : Addr) (H1 : Heap), hxt H H1 → px E → H1[q9]? = some ce → ce.vm = .none → s.vm.findClass E = some ce.cls → vx_W p l e R s m args below meth c H1 locs (cells + mc) (slots + ms) Q (F0 m pc ls rest) q9)
    (kk : ∀ (v : Option Value) (H1 : Heap), hxt H H1 → post v H1 → W p l e R s m args below meth c H1 locs (cells + mc) (slots + ms) Q (F0 m (pc + 3) ls (v.toList ++ rest))) : W p l e R s m args below meth c H locs cells slots Q (F0 m pc ls st0) := by
  intro T hT X
  rcases hr T hT X with ⟨v, st₀, t, T', L, h0, X', hL, e1, e2, ⟨v', f1, f2, f3⟩, st⟩ | ⟨q, st₀, t, T', L, E, ce, h0, X', hL, e1, e2, ⟨f2, f3⟩, hce, hcv, hcl, st⟩
  · cases f1
    rw [h0] at f2
    obtain ⟨t2, a1, b1⟩ := kk v t.heap f2 f3 T' e1 (Stand.forget X' (fun x h => Nat.le_trans hs (hL x h)))
    exact ⟨t2, st t2 a1, b1⟩
  · rw [h0] at f2
    obtain ⟨t2, a1, b1⟩ := kx E ce q t.heap f2 f3 hce hcv hcl T' e1 (Stand.forget X' (fun x h => Nat.le_trans hs (hL x h)))
    exact ⟨t2, st.trans a1, b1⟩
variable {mc' ms' : Nat} {post' : Option Value → Heap → Prop} {px' : String → Prop} {free : Addr → Prop}
/-- it is thrown on -/
theorem x_thru {E : String} {ce : Cell} {q9 : Addr} {H1 : Heap} (X : CX p s m args meth c y cy nl ret g) (hne : ∀ x ∈ c.exceptionTable.toList, False) (hX : hxt s.heap H1) (hp : px' E) (h1 : H1[q9]? = some ce) (h2 : ce.vm = .none) (h3 : s.vm.findClass E = some ce.cls) (hc : cells ≤ mc' ∧ slots ≤ ms') :
    vx_W p l e R s m args below meth c H1 [] cells slots (vx_MQ below (pQ post') (xQ px') args s mc' ms' free) (F0 m pc ls rest) q9 :=
  vx_out (fun x hx => (hne x hx).elim) X.2.2.2.2.2.2.1 h1 h2 h3 (fun t ht _ => ⟨by rw [ht]; exact hX, hp⟩) (fun z h => nomatch h) hc.1 hc.2
theorem x_callV (X : CX p s m args meth c y cy nl ret g) (hne : ∀ x ∈ c.exceptionTable.toList, False) (hE : EX s) (hM : XM l y' cy' nl' ret' rm g (.ref b :: As) G mc ms post px)
    (hw : Cond.methodLink y.cls idx y' ∈ tb ∧ Cond.instanceMethod y' ∈ tb ∧ Cond.selects C y' y' ∈ tb ∧ Cond.initialized C ∈ tb ∧ Cond.code y' cy' nl' ret' ∈ tb)
    (hd : y'.cls = C ∧ y'.cls ≠ "java/lang/invoke/MethodHandle" ∧ y'.cls ≠ "java/lang/invoke/VarHandle" ∧ (parseMethodDescriptor y'.desc).map (fun d => d.parameters.length) = some n)
    (hrm : rm.cells = mc ∧ rm.slots = ms ∧ (rm.frames + 1 ≤ R.frames ∧ 8 + (nl' + 11) + rm.locals ≤ R.locals) ∧ cells + mc ≤ R.cells ∧ slots + ms ≤ R.slots)
    {ci : Nat} {fs : List Value} {q : vw_C} (hat : va_at g.1 cl0 (b, .inr (ci, fs)) H) (hci : cl0[ci]? = some q) (hq : q.1 = C)
    (hG : G H) (hX : hxt s.heap H) (hn : As.length = n) (hls : ls.size = nl) (hst : st0 = As.reverse ++ .ref b :: rest) (hrest : (rest.map fun v => v.category).sum ≤ 8) (hdg : decode cy pc = .ok (.invokevirtual idx, 3))
    (hpx : ∀ E, px E → px' E) (hc : cells + mc ≤ mc' ∧ slots + ms ≤ ms')
    (kk : ∀ (v : Option Value) (H1 : Heap), hxt H H1 → post v H1 → W p l e R s m args below meth c H1 [] (cells + mc) (slots + ms) (vx_MQ below (pQ post') (xQ px') args s mc' ms' free) (F0 m (pc + 3) ls (v.toList ++ rest))) : W p l e R s m args below meth c H [] cells slots (vx_MQ below (pQ post') (xQ px') args s mc' ms' free) (F0 m pc ls st0) := by
  have X' := X
  obtain ⟨hx, hb, hml, hown, hts, -, -, hK, -⟩ := X
  obtain ⟨h1, h2, h3, h4, h5⟩ := hw
  obtain ⟨r1, r2, r3, r4⟩ := hrm
  subst hq
  exact x_call (a := (Value.ref b :: As).toArray) (vx_runV (C := q.1) (n := n) ⟨hx, hb, hml, hown, hts⟩ (hM H.size) (cwV n hts (tb_GV h1 h2 h3 h4 h5) rfl r1 r2 hd r3) ⟨xPc_blind, va_recv (q0 := 0) hK (PP.one hat) hci rfl, fun U hU hW => ⟨rfl, by rw [hU], by rw [hU]; exact hG, va_K.moved hW.alike hK, hE.at hW (by rw [hU]; exact hX)⟩⟩ rfl hn hls hst (lv_room hrest) hdg r4) hX.1 (fun E ce q9 H1 k1 k2 k3 k4 k5 => x_thru X' hne (hX.tr k1) (hpx E k2) k3 k4 k5 hc) kk
theorem x_callS (X : CX p s m args meth c y cy nl ret g) (hne : ∀ x ∈ c.exceptionTable.toList, False) (hE : EX s) (hM : XM l y' cy' nl' ret' rm g As G mc ms post px)
    (hw : Cond.methodLink y.cls idx y' ∈ tb ∧ Cond.static y' ∈ tb ∧ Cond.initialized y.cls ∈ tb ∧ Cond.code y' cy' nl' ret' ∈ tb)
    (hd : y'.cls = y.cls ∧ y'.cls ≠ "java/lang/invoke/MethodHandle" ∧ y'.cls ≠ "java/lang/invoke/VarHandle" ∧ (parseMethodDescriptor y'.desc).map (fun d => d.parameters.length) = some n)
    (hrm : rm.cells = mc ∧ rm.slots = ms ∧ (rm.frames + 1 ≤ R.frames ∧ 8 + (nl' + 11) + rm.locals ≤ R.locals) ∧ cells + mc ≤ R.cells ∧ slots + ms ≤ R.slots)
    (hG : G H) (hX : hxt s.heap H) (hn : As.length = n) (hls : ls.size = nl) (hst : st0 = As.reverse ++ rest) (hrest : (rest.map fun v => v.category).sum ≤ 8) (hdg : decode cy pc = .ok (.invokestatic idx, 3))
    (hpx : ∀ E, px E → px' E) (hc : cells + mc ≤ mc' ∧ slots + ms ≤ ms')
    (kk : ∀ (v : Option Value) (H1 : Heap), hxt H H1 → post v H1 → W p l e R s m args below meth c H1 [] (cells + mc) (slots + ms) (vx_MQ below (pQ post') (xQ px') args s mc' ms' free) (F0 m (pc + 3) ls (v.toList ++ rest))) : W p l e R s m args below meth c H [] cells slots (vx_MQ below (pQ post') (xQ px') args s mc' ms' free) (F0 m pc ls st0) := by
  have X' := X
  obtain ⟨hx, hb, hml, hown, hts, -, -, hK, -⟩ := X
  obtain ⟨h1, h2, h4, h5⟩ := hw
  obtain ⟨r1, r2, r3, r4⟩ := hrm
  exact x_call (a := As.toArray) (vx_runS (n := n) ⟨hx, hb, hml, hown, hts⟩ (hM H.size) (cwS n hts (tb_GS h1 h2 h4 h5) rfl r1 r2 hd r3) ⟨xPc_blind, fun U hU hW => ⟨rfl, by rw [hU], by rw [hU]; exact hG, va_K.moved hW.alike hK, hE.at hW (by rw [hU]; exact hX)⟩⟩ rfl hn hls hst (lv_room hrest) hdg r4) hX.1 (fun E ce q9 H1 k1 k2 k3 k4 k5 => x_thru X' hne (hX.tr k1) (hpx E k2) k3 k4 k5 hc) kk
/-- throw new E("..") in RafterPlaces -/
theorem x_throw (X : CX p s m args meth c y cy nl ret g) (hne : ∀ x ∈ c.exceptionTable.toList, False) (hE : EX s) (hl : l.stackTraces = false) {cls text : String} {names : List String} {ik is ic : Nat} (hy : y.cls = RX1) (hcls : Bundle.fit cls = true) (hnames : ∀ n ∈ names, Bundle.fit n = true)
    (hw : Cond.classLink RX1 ik cls ∈ tb ∧ Cond.initialized cls ∈ tb) (hstr : ∃ a, vk_R RX1 is text a s) (hat1 : ∀ w ∈ (vx_atS RX1 ic cls names).filter goodWord, w ∈ tb) (hat2 : ∀ w ∈ (vx_atS RX1 ic cls names).filter (fun w => !goodWord w), w ∈ NG)
    (hgood : ∀ w ∈ Cond.classLink RX1 ik cls :: Cond.initialized cls :: vx_atS RX1 ic cls names, vx_ot w = true) (hX : hxt s.heap H) (hls : ls.size = nl)
    (d0 : decode cy pc = .ok (.new ik, 3)) (d3 : decode cy (pc + 3) = .ok (.dup, 1)) (d4 : decode cy (pc + 4) = .ok (.ldc is, 2)) (d6 : decode cy (pc + 6) = .ok (.invokespecial ic, 3)) (d9 : decode cy (pc + 9) = .ok (.athrow, 1))
    (hR : names.length + 3 < R.frames ∧ (rest.map fun v => v.category).sum + (13 * (names.length + 1) + 43) ≤ R.locals ∧ cells + 1 ≤ R.cells ∧ slots + 6 ≤ R.slots) (hp : px' cls) (hc : cells + 1 ≤ mc' ∧ slots + 6 ≤ ms') :
    W p l e R s m args below meth c H [] cells slots (vx_MQ below (pQ post') (xQ px') args s mc' ms' free) (F0 m pc ls rest) := by
  obtain ⟨hx, hb, hml, hown, hts, -, hlocks, hK, -⟩ := X
  have hts' : ∀ w ∈ tb, w.before args s = true := fun w h => hts w (List.mem_cons_of_mem _ h)
  obtain ⟨sa, hstr⟩ := hstr
  rw [hy] at hown
  refine vx_throwS (A := fun q => s.heap.size ≤ q) (sa := sa) hx hb hl hown hcls hnames (hts' _ hw.1) (hts' _ hw.2) hstr (vx_hat (B := NG) (fun w hw => hts' w (hat1 w hw)) hat2 (fun w hw => va_Nw.use (NG_on w hw) (hE.2.2.1 w hw))) hgood hE.1 hE.2.1 ⟨hX.1, fun q h1 _ => hX.2 q h1, fun q h => nomatch h⟩ (hls.trans hml.symm) d0 d3 d4 d6 d9 (fun x hx => (hne x hx).elim) hR.1 hR.2.1 hR.2.2.1 hR.2.2.2 hlocks (fun t _ h1 h2 => ⟨hX.tr ⟨h1, h2⟩, hp⟩) (fun z h => nomatch h) hc.1 hc.2
end XW
theorem tA1 : ∀ w ∈ (vx_atS RX1 132 eA ["java/lang/IndexOutOfBoundsException", "java/lang/RuntimeException", "java/lang/Exception"]).filter goodWord, w ∈ tb := by decide +kernel
theorem tA2 : ∀ w ∈ (vx_atS RX1 132 eA ["java/lang/IndexOutOfBoundsException", "java/lang/RuntimeException", "java/lang/Exception"]).filter (fun w => !goodWord w), w ∈ NG := by decide +kernel
theorem tA3 : ∀ w ∈ Cond.classLink RX1 128 eA :: Cond.initialized eA :: vx_atS RX1 132 eA ["java/lang/IndexOutOfBoundsException", "java/lang/RuntimeException", "java/lang/Exception"], vx_ot w = true := by decide +kernel
theorem tG1 : ∀ w ∈ (vx_atS RX1 139 eG ["java/lang/RuntimeException", "java/lang/Exception"]).filter goodWord, w ∈ tb := by decide +kernel
theorem tG2 : ∀ w ∈ (vx_atS RX1 139 eG ["java/lang/RuntimeException", "java/lang/Exception"]).filter (fun w => !goodWord w), w ∈ NG := by decide +kernel
theorem tG3 : ∀ w ∈ Cond.classLink RX1 135 eG :: Cond.initialized eG :: vx_atS RX1 139 eG ["java/lang/RuntimeException", "java/lang/Exception"], vx_ot w = true := by decide +kernel
theorem tS1 : ∀ w ∈ (vx_atS RX1 148 eS ["java/lang/RuntimeException", "java/lang/Exception"]).filter goodWord, w ∈ tb := by decide +kernel
theorem tS2 : ∀ w ∈ (vx_atS RX1 148 eS ["java/lang/RuntimeException", "java/lang/Exception"]).filter (fun w => !goodWord w), w ∈ NG := by decide +kernel
theorem tS3 : ∀ w ∈ Cond.classLink RX1 144 eS :: Cond.initialized eS :: vx_atS RX1 148 eS ["java/lang/RuntimeException", "java/lang/Exception"], vx_ot w = true := by decide +kernel
end
section
/-! raw ints and longs as numbers; which kind of answer a call has -/
def toN (i : Int32) : Nat := i.toInt.toNat
def toL (v : Int64) : Nat := v.toInt.toNat
def inI (i : Int32) (n : Nat) : Bool := decide (0 ≤ i.toInt ∧ i.toInt < (n : Int))
def inL (v : Int64) (lo hi : Nat) : Bool := decide ((lo : Int) ≤ v.toInt ∧ v.toInt ≤ (hi : Int))
theorem toN_k {k : Nat} (h : k < 2 ^ 31) : toN (nI k) = k := by rw [toN, nI_toInt h, Int.toNat_natCast]
theorem toL_k {k : Nat} (h : k < 2 ^ 63) : toL (lN k) = k := by rw [toL, pk_lT h, Int.toNat_natCast]
theorem inI_k {k n : Nat} (h : k < n) (hn : n < 2 ^ 31) : inI (nI k) n = true := by rw [inI, nI_toInt (by omega)]; exact decide_eq_true (by omega)
theorem inL_k {k lo hi : Nat} (h1 : lo ≤ k) (h2 : k ≤ hi) (hn : hi < 2 ^ 63) : inL (lN k) lo hi = true := by rw [inL, pk_lT (by omega)]; exact decide_eq_true (by omega)
theorem inI_of {i : Int32} {n : Nat} (h : inI i n = true) (hn : n < 2 ^ 31) : ∃ k, k < n ∧ i = nI k := by
  have h1 := of_decide_eq_true h
  refine ⟨i.toInt.toNat, by omega, Int32.toInt_inj.mp ?_⟩
  rw [nI_toInt (by omega)]; omega
theorem inL_of {v : Int64} {lo hi : Nat} (h : inL v lo hi = true) (hn : hi < 2 ^ 63) : ∃ k, lo ≤ k ∧ k ≤ hi ∧ v = lN k := by
  have h1 := of_decide_eq_true h
  refine ⟨v.toInt.toNat, by omega, by omega, Int64.toInt_inj.mp ?_⟩
  rw [pk_lT (by omega)]; omega
theorem inI_lo {i : Int32} {n : Nat} (h : i < 0) : inI i n = false := by
  rw [Int32.lt_iff_toInt_lt, Int32.toInt_zero] at h
  exact decide_eq_false (by omega)
theorem inI_hi {i : Int32} {n : Nat} (hn : n < 2 ^ 31) (h : ¬ i < nI n) : inI i n = false := by
  rw [Int32.lt_iff_toInt_lt, nI_toInt hn] at h
  exact decide_eq_false (by omega)
theorem inI_in {i : Int32} {n : Nat} (hn : n < 2 ^ 31) (h0 : ¬ i < 0) (h : i < nI n) : inI i n = true := by
  rw [Int32.lt_iff_toInt_lt, Int32.toInt_zero] at h0
  rw [Int32.lt_iff_toInt_lt, nI_toInt hn] at h
  exact decide_eq_true (by omega)
theorem inL_lo {v : Int64} {lo hi : Nat} (hn : lo < 2 ^ 63) (h : v < lN lo) : inL v lo hi = false := by
  rw [Int64.lt_iff_toInt_lt, pk_lT hn] at h
  exact decide_eq_false (by omega)
theorem inL_hi {v : Int64} {lo hi : Nat} (hn : hi < 2 ^ 63) (h : ¬ v ≤ lN hi) : inL v lo hi = false := by
  rw [Int64.le_iff_toInt_le, pk_lT hn] at h
  exact decide_eq_false (by omega)
theorem inL_in {v : Int64} {lo hi : Nat} (h1 : lo < 2 ^ 63) (h2 : hi < 2 ^ 63) (h : ¬ v < lN lo) (h3 : v ≤ lN hi) : inL v lo hi = true := by
  rw [Int64.lt_iff_toInt_lt, pk_lT h1] at h
  rw [Int64.le_iff_toInt_le, pk_lT h2] at h3
  exact decide_eq_true (by omega)
def xk (a s g : Bool) : String → Prop := fun E => (a = false ∧ E = eA) ∨ (a = true ∧ s = false ∧ E = eS) ∨ (a = true ∧ s = true ∧ g = false ∧ E = eG)
theorem xk_A {a a' s g : Bool} {E : String} (ha : a = false → a' = false) (h : xk a true true E) : xk a' s g E := by
  rcases h with h | h | h
  · exact Or.inl ⟨ha h.1, h.2⟩
  · exact absurd h.2.1 (by decide)
  · exact absurd h.2.2.1 (by decide)
theorem xk_S {s a' s' g : Bool} {E : String} (ha : a' = true) (hs : s = false → s' = false) (h : xk true s true E) : xk a' s' g E := by
  rcases h with h | h | h
  · exact absurd h.1 (by decide)
  · exact Or.inr (Or.inl ⟨ha, hs h.2.1, h.2.2⟩)
  · exact absurd h.2.2.1 (by decide)
theorem xk_G {g a' s' g' : Bool} {E : String} (ha : a' = true) (hs : s' = true) (hg : g = false → g' = false) (h : xk true true g E) : xk a' s' g' E := by
  rcases h with h | h | h
  · exact absurd h.1 (by decide)
  · exact absurd h.2.1 (by decide)
  · exact Or.inr (Or.inr ⟨ha, hs, hg h.2.2.1, h.2.2.2⟩)
theorem xk_SG {s g a' s' g' : Bool} {E : String} (ha : a' = true) (hs : s = s') (hg : g = g') (h : xk true s g E) : xk a' s' g' E := by
  subst ha; subst hs; subst hg; exact h
/-- a void method that checks -/
def rC (b : Bool) : Option Value → Heap → Prop := fun v _ => v = none ∧ b = true
def bt : Nat → Int32
  | 0 => -1
  | k + 1 => nI k
theorem bt_dec (k : Nat) : nI k + Int32.ofInt (-1) = bt k := by
  cases k with
  | zero => decide
  | succ k => rw [show Int32.ofInt (-1) = -1 from by decide]; exact pk_m1 k
set_option maxHeartbeats 4000000 in
set_option maxRecDepth 100000 in
theorem c_X1_root (l : Launch) (g : En) (n : Nat) (hn : n < 2 ^ 62) : PM l yX1_root cX1_root 7 (some FieldType.long) { frames := 0, cells := 0, slots := 0, locals := 0 } g [.long (lN n)] (fun H => True) 0 0 (rL (isq n)) := by
  refine PM.of (by decide) (Nat.le_of_ble_eq_true rfl) (fun p e s m below meth c ls X _ hl => ?_)
  have hX : hxt s.heap s.heap := hxt.rf
  have loop : ∀ (k r0 : Nat), k ≤ 31 → r0 + 2 ^ k ≤ 2 ^ 31 → rt k r0 n = isq n → ∀ (ls : Array Slot), lv_has ls 7 [(4, .int (bt k)), (2, .long (lN r0)), (0, .long (lN n))] → W p l e { frames := 0, cells := 0, slots := 0, locals := 0 } s m ([.long (lN n)] : List Value).toArray below meth c s.heap [] 0 0 (MQ below (pQ (rL (isq n))) ([.long (lN n)] : List Value).toArray s 0 0 (fun q => s.heap.size ≤ q)) (F0 m 6 ls []) := by
    intro k
    induction k with
    | zero =>
      intro r0 hk hr hg ls hl
      refine lv_iload X.1 X.2.1 dX1_root_6 (lv_at hl 0 rfl) ?_
      refine lv_if_lt (tgt := 38) X.1 X.2.1 dX1_root_8 (by decide) (fun hB101 => ?_) (fun hB101 => ?_)
      ·
        refine lv_lload_n X.1 X.2.1 dX1_root_38 rfl (lv_at hl 1 rfl) ?_
        exact p_lret X hX (by rw [rL, ← hg]; rfl) ⟨by decide, by decide⟩ dX1_root_39
      ·
        exact absurd (show bt 0 < 0 by decide) hB101
    | succ k ih =>
      intro r0 hk hr hg ls hl
      have hp : 2 ^ (k + 1) = 2 ^ k + 2 ^ k := by rw [Nat.pow_succ]; omega
      have hp0 : 0 < 2 ^ k := Nat.two_pow_pos k
      have ht : r0 + 2 ^ k ≤ 2 ^ 31 := by omega
      have hsq : (r0 + 2 ^ k) * (r0 + 2 ^ k) ≤ 2 ^ 31 * 2 ^ 31 := Nat.mul_le_mul ht ht
      have hl : lv_has ls 7 [(4, .int (nI k)), (2, .long (lN r0)), (0, .long (lN n))] := hl
      refine lv_iload X.1 X.2.1 dX1_root_6 (lv_at hl 0 rfl) ?_
      refine lv_if_lt (tgt := 38) X.1 X.2.1 dX1_root_8 (by decide) (fun hB101 => ?_) (fun hB101 => ?_)
      ·
        exact absurd hB101 (nI_pos (by omega))
      ·
        refine lv_lload_n X.1 X.2.1 dX1_root_11 rfl (lv_at hl 1 rfl) ?_
        refine lv_lconst (v := lN 1) X.1 X.2.1 dX1_root_12 (by decide) ?_
        refine lv_iload X.1 X.2.1 dX1_root_13 (lv_at hl 0 rfl) ?_
        refine lv_lshl (v := lN (1 * 2 ^ k)) X.1 X.2.1 dX1_root_15 (wb_shl 1 (by omega)) ?_
        refine w_l (v' := lN (2 ^ k)) (by rw [Nat.one_mul]) ?_
        refine lv_ladd X.1 X.2.1 dX1_root_16 ?_
        refine w_l (lN_add _ _) ?_
        refine lv_lstore (lv' := [(5, .long (lN (r0 + (2 ^ k)))), (4, .int (nI k)), (2, .long (lN r0)), (0, .long (lN n))]) X.1 X.2.1 dX1_root_17 hl (by decide) rfl (fun ls hl => ?_)
        refine lv_lload X.1 X.2.1 dX1_root_19 (lv_at hl 0 rfl) ?_
        refine lv_lload X.1 X.2.1 dX1_root_21 (lv_at hl 0 rfl) ?_
        refine lv_lmul X.1 X.2.1 dX1_root_23 ?_
        refine w_l (lN_mul _ _) ?_
        refine lv_lload_n X.1 X.2.1 dX1_root_24 rfl (lv_at hl 3 rfl) ?_
        refine q_Ngt X (by omega) (by omega) (tgt := 32) dX1_root_25 dX1_root_26 (by decide) (fun hB102 => ?_) (fun hB102 => ?_)
        ·
          refine lv_iinc (v := bt k) (lv' := [(4, .int (bt k)), (5, .long (lN (r0 + (2 ^ k)))), (2, .long (lN r0)), (0, .long (lN n))]) X.1 X.2.1 dX1_root_32 hl (k := 1) rfl (bt_dec k) (by decide) rfl (fun ls hl => ?_)
          refine lv_goto (tgt := 6) X.1 X.2.1 dX1_root_35 (by decide) ?_
          exact ih (r0) (by omega) (by omega) (by rw [← hg, rt, if_neg (by omega)]) ls (lv_sub hl [0, 2, 3] rfl)
        ·
          refine lv_lload X.1 X.2.1 dX1_root_29 (lv_at hl 0 rfl) ?_
          refine lv_lstore_n (lv' := [(2, .long (lN (r0 + (2 ^ k)))), (5, .long (lN (r0 + (2 ^ k)))), (4, .int (nI k)), (0, .long (lN n))]) X.1 X.2.1 dX1_root_31 rfl hl (by decide) rfl (fun ls hl => ?_)
          refine lv_iinc (v := bt k) (lv' := [(4, .int (bt k)), (2, .long (lN (r0 + (2 ^ k)))), (5, .long (lN (r0 + (2 ^ k)))), (0, .long (lN n))]) X.1 X.2.1 dX1_root_32 hl (k := 2) rfl (bt_dec k) (by decide) rfl (fun ls hl => ?_)
          refine lv_goto (tgt := 6) X.1 X.2.1 dX1_root_35 (by decide) ?_
          exact ih (r0 + (2 ^ k)) (by omega) (by omega) (by rw [← hg, rt, if_pos hB102]) ls (lv_sub hl [0, 1, 3] rfl)
  have hl : lv_has ls 7 [(0, .long (lN n))] := hl
  have hX : hxt s.heap s.heap := hxt.rf
  refine lv_lconst (v := lN 0) X.1 X.2.1 dX1_root_0 (by decide) ?_
  refine lv_lstore_n (lv' := [(2, .long (lN 0)), (0, .long (lN n))]) X.1 X.2.1 dX1_root_1 rfl hl (by decide) rfl (fun ls hl => ?_)
  refine lv_bipush (v := nI 30) X.1 X.2.1 dX1_root_2 (by decide) ?_
  refine lv_istore (lv' := [(4, .int (nI 30)), (2, .long (lN 0)), (0, .long (lN n))]) X.1 X.2.1 dX1_root_4 hl (by decide) rfl (fun ls hl => ?_)
  exact loop 31 0 (by decide) (by decide) rfl ls (lv_sub hl [0, 1, 2] rfl)
set_option maxHeartbeats 4000000 in
set_option maxRecDepth 100000 in
theorem c_X1_checkIndex (l : Launch) (g : En) (i : Int32) (n : Nat) (hl0 : l.stackTraces = false) (hn : n < 2 ^ 31) : XM l yX1_checkIndex cX1_checkIndex 2 none { frames := 7, cells := 1, slots := 6, locals := 95 } g [.int i, .int (nI n)] (fun H => True) 1 6 (rC (inI i n)) (xk (inI i n) true true) := by
  refine XM.of (by decide) (Nat.le_of_ble_eq_true rfl) (fun p e s m below meth c ls X hne hE hG hl => ?_)
  have hl : lv_has ls 2 [(0, .int i), (1, .int (nI n))] := hl
  have hX : hxt s.heap s.heap := hxt.rf
  refine lv_iload_n X.1 X.2.1 dX1_checkIndex_0 rfl (lv_at hl 0 rfl) ?_
  refine lv_if_lt (tgt := 9) X.1 X.2.1 dX1_checkIndex_1 (by decide) (fun hB1 => ?_) (fun hB1 => ?_)
  ·
    exact x_throw (cls := eA) (names := ["java/lang/IndexOutOfBoundsException", "java/lang/RuntimeException", "java/lang/Exception"]) X hne hE hl0 rfl (by decide) (by decide) ⟨mw_178, mw_46⟩ (hE.2.2.2.2.1) tA1 tA2 tA3 hX hl.1 dX1_checkIndex_9 dX1_checkIndex_12 dX1_checkIndex_13 dX1_checkIndex_15 dX1_checkIndex_18 ⟨by decide, by decide, by decide, by decide⟩ (Or.inl ⟨inI_lo hB1, rfl⟩) ⟨by decide, by decide⟩
  ·
    refine lv_iload_n X.1 X.2.1 dX1_checkIndex_4 rfl (lv_at hl 0 rfl) ?_
    refine lv_iload_n X.1 X.2.1 dX1_checkIndex_5 rfl (lv_at hl 1 rfl) ?_
    refine lv_icmp_lt (tgt := 19) X.1 X.2.1 dX1_checkIndex_6 (by decide) (fun hB2 => ?_) (fun hB2 => ?_)
    ·
      exact vx_ret (p_vret X hX (⟨rfl, inI_in hn hB1 hB2⟩) ⟨by decide, by decide⟩ dX1_checkIndex_19)
    ·
      exact x_throw (cls := eA) (names := ["java/lang/IndexOutOfBoundsException", "java/lang/RuntimeException", "java/lang/Exception"]) X hne hE hl0 rfl (by decide) (by decide) ⟨mw_178, mw_46⟩ (hE.2.2.2.2.1) tA1 tA2 tA3 hX hl.1 dX1_checkIndex_9 dX1_checkIndex_12 dX1_checkIndex_13 dX1_checkIndex_15 dX1_checkIndex_18 ⟨by decide, by decide, by decide, by decide⟩ (Or.inl ⟨inI_hi hn hB2, rfl⟩) ⟨by decide, by decide⟩
set_option maxHeartbeats 4000000 in
set_option maxRecDepth 100000 in
theorem c_X1_checkNumber (l : Launch) (g : En) (v0 : Int64) (lo hi : Nat) (hl0 : l.stackTraces = false) (h1 : lo < 2 ^ 63) (h2 : hi < 2 ^ 63) : XM l yX1_checkNumber cX1_checkNumber 6 none { frames := 6, cells := 1, slots := 6, locals := 82 } g [.long v0, .long (lN lo), .long (lN hi)] (fun H => True) 1 6 (rC (inL v0 lo hi)) (xk true true (inL v0 lo hi)) := by
  refine XM.of (by decide) (Nat.le_of_ble_eq_true rfl) (fun p e s m below meth c ls X hne hE hG hl => ?_)
  have hl : lv_has ls 6 [(0, .long v0), (2, .long (lN lo)), (4, .long (lN hi))] := hl
  have hX : hxt s.heap s.heap := hxt.rf
  refine lv_lload_n X.1 X.2.1 dX1_checkNumber_0 rfl (lv_at hl 0 rfl) ?_
  refine lv_lload_n X.1 X.2.1 dX1_checkNumber_1 rfl (lv_at hl 1 rfl) ?_
  refine q_llt X (tgt := 13) dX1_checkNumber_2 dX1_checkNumber_3 (by decide) (fun hB1 => ?_) (fun hB1 => ?_)
  ·
    exact x_throw (cls := eG) (names := ["java/lang/RuntimeException", "java/lang/Exception"]) X hne hE hl0 rfl (by decide) (by decide) ⟨mw_99, mw_44⟩ (hE.2.2.2.2.2.1) tG1 tG2 tG3 hX hl.1 dX1_checkNumber_13 dX1_checkNumber_16 dX1_checkNumber_17 dX1_checkNumber_19 dX1_checkNumber_22 ⟨by decide, by decide, by decide, by decide⟩ (Or.inr (Or.inr ⟨rfl, rfl, inL_lo h1 hB1, rfl⟩)) ⟨by decide, by decide⟩
  ·
    refine lv_lload_n X.1 X.2.1 dX1_checkNumber_6 rfl (lv_at hl 0 rfl) ?_
    refine lv_lload X.1 X.2.1 dX1_checkNumber_7 (lv_at hl 2 rfl) ?_
    refine q_lle X (tgt := 23) dX1_checkNumber_9 dX1_checkNumber_10 (by decide) (fun hB2 => ?_) (fun hB2 => ?_)
    ·
      exact vx_ret (p_vret X hX (⟨rfl, inL_in h1 h2 hB1 hB2⟩) ⟨by decide, by decide⟩ dX1_checkNumber_23)
    ·
      exact x_throw (cls := eG) (names := ["java/lang/RuntimeException", "java/lang/Exception"]) X hne hE hl0 rfl (by decide) (by decide) ⟨mw_99, mw_44⟩ (hE.2.2.2.2.2.1) tG1 tG2 tG3 hX hl.1 dX1_checkNumber_13 dX1_checkNumber_16 dX1_checkNumber_17 dX1_checkNumber_19 dX1_checkNumber_22 ⟨by decide, by decide, by decide, by decide⟩ (Or.inr (Or.inr ⟨rfl, rfl, inL_hi h2 hB2, rfl⟩)) ⟨by decide, by decide⟩
set_option maxHeartbeats 4000000 in
set_option maxRecDepth 100000 in
theorem c_X1_checkNoGable (l : Launch) (g : En) (o r : Nat) (A : Nat → Nat) (x1 y1 : Nat) (q : Nat → Rat) (k : Nat) (hl0 : l.stackTraces = false) (hk : k < 4) (hq : bd (q k) 20 20) : XM l yX1_checkNoGable cX1_checkNoGable 2 none { frames := 6, cells := 1, slots := 6, locals := 82 } g [.ref o, .int (nI k)] (fun H => RP g o r A x1 y1 q H) 1 6 (rC (!gab q k)) (xk true (!gab q k) true) := by
  refine XM.of (by decide) (Nat.le_of_ble_eq_true rfl) (fun p e s m below meth c ls X hne hE hG hl => ?_)
  obtain ⟨hP, hF⟩ := hG
  have hl : lv_has ls 2 [(0, .ref o), (1, .int (nI k))] := hl
  have hX : hxt s.heap s.heap := hxt.rf
  have hP : PP g [ob o x1 y1 r, ar g r A] s.heap := hP
  refine lv_aload_n X.1 X.2.1 dX1_checkNoGable_0 rfl (lv_at hl 0 rfl) ?_
  refine lv_iload_n X.1 X.2.1 dX1_checkNoGable_1 rfl (lv_at hl 1 rfl) ?_
  refine p_callV (C := RX1) (b := o) (As := [.int (nI k)]) (rest := []) X (c_X1_isGable l g o r A x1 y1 q k hk hq) ⟨mw_220, mw_222, mw_3, mw_38, mw_223⟩ sgX1_isGable ⟨rfl, rfl, ⟨by decide, by decide⟩, by decide, by decide⟩ (hP.at 0 rfl) rfl rfl (RP.of hP [0, 1] rfl hF) hX.1 rfl hl.1 rfl (Nat.le_of_ble_eq_true rfl) dX1_checkNoGable_2 (fun v H1 hk2 hp => ?_)
  obtain rfl := hp
  have hX := hX.tr hk2
  have hP := PP.ext hP hk2
  have hF := RF.ext hF hk2
  refine W.eq (g2 := F0 m 5 ls [.int (bI (gab q k))]) rfl ?_
  refine q_Beq X (tgt := 18) dX1_checkNoGable_5 (by decide) (fun hB3 => ?_) (fun hB3 => ?_)
  ·
    exact vx_ret (p_vret X hX (⟨rfl, by rw [hB3]; rfl⟩) ⟨by decide, by decide⟩ dX1_checkNoGable_18)
  ·
    exact x_throw (cls := eS) (names := ["java/lang/RuntimeException", "java/lang/Exception"]) X hne hE hl0 rfl (by decide) (by decide) ⟨mw_224, mw_47⟩ (hE.2.2.2.2.2.2.1) tS1 tS2 tS3 hX hl.1 dX1_checkNoGable_8 dX1_checkNoGable_11 dX1_checkNoGable_12 dX1_checkNoGable_14 dX1_checkNoGable_17 ⟨by decide, by decide, by decide, by decide⟩ (Or.inr (Or.inl ⟨rfl, by rw [hB3]; rfl, rfl⟩)) ⟨by decide, by decide⟩
set_option maxHeartbeats 4000000 in
set_option maxRecDepth 100000 in
theorem c_X1_checkInOutline (l : Launch) (g : En) (o r : Nat) (A : Nat → Nat) (x1 y1 : Nat) (q : Nat → Rat) (vx vy : Int64) (hl0 : l.stackTraces = false) (hO : OK x1 y1 q) : XM l yX1_checkInOutline cX1_checkInOutline 5 none { frames := 7, cells := 2, slots := 12, locals := 107 } g [.ref o, .long vx, .long vy] (fun H => RP g o r A x1 y1 q H) 2 12 (rC (inL vx 0 x1 && inL vy 0 y1)) (xk true true (inL vx 0 x1 && inL vy 0 y1)) := by
  refine XM.of (by decide) (Nat.le_of_ble_eq_true rfl) (fun p e s m below meth c ls X hne hE hG hl => ?_)
  obtain ⟨hP, hF⟩ := hG
  have hX2 := hO.1.2
  have hY2 := hO.2.1.2
  have hl : lv_has ls 5 [(0, .ref o), (1, .long vx), (3, .long vy)] := hl
  have hX : hxt s.heap s.heap := hxt.rf
  have hP : PP g [ob o x1 y1 r, ar g r A] s.heap := hP
  refine lv_lload_n X.1 X.2.1 dX1_checkInOutline_0 rfl (lv_at hl 1 rfl) ?_
  refine lv_lconst (v := lN 0) X.1 X.2.1 dX1_checkInOutline_1 (by decide) ?_
  refine lv_aload_n X.1 X.2.1 dX1_checkInOutline_2 rfl (lv_at hl 0 rfl) ?_
  refine p_get (T := TX1) X uX1 (hP.at 0 rfl) rfl 0 (by decide) mw_77 rfl rfl dX1_checkInOutline_3 ?_
  refine x_callS (As := [.long vx, .long (lN 0), .long (lN x1)]) (rest := []) X hne hE (c_X1_checkNumber l g vx 0 x1 hl0 (by decide) (by omega)) ⟨mw_96, mw_97, mw_38, mw_98⟩ sgX1_checkNumber ⟨rfl, rfl, ⟨by decide, by decide⟩, by decide, by decide⟩ (trivial) hX rfl hl.1 rfl (Nat.le_of_ble_eq_true rfl) dX1_checkInOutline_6 (fun E h => xk_G rfl rfl (fun h9 => by rw [h9]; rfl) h) ⟨by decide, by decide⟩ (fun v H1 hk2 hp => ?_)
  obtain ⟨rfl, ha⟩ := hp
  have hX := hX.tr hk2
  have hP := PP.ext hP hk2
  have hF := RF.ext hF hk2
  refine W.eq (g2 := F0 m 9 ls []) rfl ?_
  refine lv_lload_n X.1 X.2.1 dX1_checkInOutline_9 rfl (lv_at hl 2 rfl) ?_
  refine lv_lconst (v := lN 0) X.1 X.2.1 dX1_checkInOutline_10 (by decide) ?_
  refine lv_aload_n X.1 X.2.1 dX1_checkInOutline_11 rfl (lv_at hl 0 rfl) ?_
  refine p_get (T := TX1) X uX1 (hP.at 0 rfl) rfl 1 (by decide) mw_78 rfl rfl dX1_checkInOutline_12 ?_
  refine x_callS (As := [.long vy, .long (lN 0), .long (lN y1)]) (rest := []) X hne hE (c_X1_checkNumber l g vy 0 y1 hl0 (by decide) (by omega)) ⟨mw_96, mw_97, mw_38, mw_98⟩ sgX1_checkNumber ⟨rfl, rfl, ⟨by decide, by decide⟩, by decide, by decide⟩ (trivial) hX rfl hl.1 rfl (Nat.le_of_ble_eq_true rfl) dX1_checkInOutline_15 (fun E h => xk_G rfl rfl (fun h9 => by rw [h9, ha]; rfl) h) ⟨by decide, by decide⟩ (fun v H3 hk4 hp => ?_)
  obtain ⟨rfl, hb⟩ := hp
  have hX := hX.tr hk4
  have hP := PP.ext hP hk4
  have hF := RF.ext hF hk4
  refine W.eq (g2 := F0 m 18 ls []) rfl ?_
  exact vx_ret (p_vret X hX (⟨rfl, by rw [ha, hb]; rfl⟩) ⟨by decide, by decide⟩ dX1_checkInOutline_18)
set_option maxHeartbeats 4000000 in
set_option maxRecDepth 100000 in
theorem c_X1_checkRafter (l : Launch) (g : En) (o r : Nat) (A : Nat → Nat) (x1 y1 : Nat) (q : Nat → Rat) (k : Nat) (v0 : Int64) (hl0 : l.stackTraces = false) (hO : OK x1 y1 q) (hk : k < 4) : XM l yX1_checkRafter cX1_checkRafter 4 none { frames := 7, cells := 2, slots := 12, locals := 107 } g [.ref o, .int (nI k), .long v0] (fun H => RP g o r A x1 y1 q H) 2 12 (rC (!gab q k && inL v0 0 (slen x1 y1 k))) (xk true (!gab q k) (inL v0 0 (slen x1 y1 k))) := by
  refine XM.of (by decide) (Nat.le_of_ble_eq_true rfl) (fun p e s m below meth c ls X hne hE hG hl => ?_)
  obtain ⟨hP, hF⟩ := hG
  have hsl := slen_le hO k
  have hl : lv_has ls 4 [(0, .ref o), (1, .int (nI k)), (2, .long v0)] := hl
  have hX : hxt s.heap s.heap := hxt.rf
  have hP : PP g [ob o x1 y1 r, ar g r A] s.heap := hP
  refine lv_aload_n X.1 X.2.1 dX1_checkRafter_0 rfl (lv_at hl 0 rfl) ?_
  refine lv_iload_n X.1 X.2.1 dX1_checkRafter_1 rfl (lv_at hl 1 rfl) ?_
  refine x_callV (C := RX1) (b := o) (As := [.int (nI k)]) (rest := []) X hne hE (c_X1_checkNoGable l g o r A x1 y1 q k hl0 hk (hO.2.2.1 k hk)) ⟨mw_289, mw_291, mw_9, mw_38, mw_292⟩ sgX1_checkNoGable ⟨rfl, rfl, ⟨by decide, by decide⟩, by decide, by decide⟩ (hP.at 0 rfl) rfl rfl (RP.of hP [0, 1] rfl hF) hX rfl hl.1 rfl (Nat.le_of_ble_eq_true rfl) dX1_checkRafter_2 (fun E h => xk_S rfl (fun h9 => h9) h) ⟨by decide, by decide⟩ (fun v H1 hk2 hp => ?_)
  obtain ⟨rfl, ha⟩ := hp
  have hX := hX.tr hk2
  have hP := PP.ext hP hk2
  have hF := RF.ext hF hk2
  refine W.eq (g2 := F0 m 5 ls []) rfl ?_
  refine lv_lload_n X.1 X.2.1 dX1_checkRafter_5 rfl (lv_at hl 2 rfl) ?_
  refine lv_lconst (v := lN 0) X.1 X.2.1 dX1_checkRafter_6 (by decide) ?_
  refine lv_aload_n X.1 X.2.1 dX1_checkRafter_7 rfl (lv_at hl 0 rfl) ?_
  refine lv_iload_n X.1 X.2.1 dX1_checkRafter_8 rfl (lv_at hl 1 rfl) ?_
  refine p_callV (C := RX1) (b := o) (As := [.int (nI k)]) (rest := [.long (lN 0), .long v0]) X (c_X1_sideLength l g o r A x1 y1 q k hk) ⟨mw_295, mw_297, mw_10, mw_38, mw_298⟩ sgX1_sideLength ⟨rfl, rfl, ⟨by decide, by decide⟩, by decide, by decide⟩ (hP.at 0 rfl) rfl rfl (RP.of hP [0, 1] rfl hF) hX.1 rfl hl.1 rfl (Nat.le_of_ble_eq_true rfl) dX1_checkRafter_9 (fun v H3 hk4 hp => ?_)
  obtain rfl := hp
  have hX := hX.tr hk4
  have hP := PP.ext hP hk4
  have hF := RF.ext hF hk4
  refine W.eq (g2 := F0 m 12 ls [.long (lN (slen x1 y1 k)), .long (lN 0), .long v0]) rfl ?_
  refine x_callS (As := [.long v0, .long (lN 0), .long (lN (slen x1 y1 k))]) (rest := []) X hne hE (c_X1_checkNumber l g v0 0 (slen x1 y1 k) hl0 (by decide) (by omega)) ⟨mw_96, mw_97, mw_38, mw_98⟩ sgX1_checkNumber ⟨rfl, rfl, ⟨by decide, by decide⟩, by decide, by decide⟩ (trivial) hX rfl hl.1 rfl (Nat.le_of_ble_eq_true rfl) dX1_checkRafter_12 (fun E h => xk_G rfl ha (fun h9 => h9) h) ⟨by decide, by decide⟩ (fun v H5 hk6 hp => ?_)
  obtain ⟨rfl, hb⟩ := hp
  have hX := hX.tr hk6
  have hP := PP.ext hP hk6
  have hF := RF.ext hF hk6
  refine W.eq (g2 := F0 m 15 ls []) rfl ?_
  exact vx_ret (p_vret X hX (⟨rfl, by rw [ha, hb]; rfl⟩) ⟨by decide, by decide⟩ dX1_checkRafter_15)
/-- is another side no gable? -/
def oth (q : Nat → Rat) (k : Nat) : Bool := (!decide (0 = k) && !gab q 0) || (!decide (1 = k) && !gab q 1) || (!decide (2 = k) && !gab q 2) || (!decide (3 = k) && !gab q 3)
set_option maxHeartbeats 4000000 in
set_option maxRecDepth 100000 in
theorem c_X1_checkOthersAreNotAllGables (l : Launch) (g : En) (o r : Nat) (A : Nat → Nat) (x1 y1 : Nat) (q : Nat → Rat) (k : Nat) (hl0 : l.stackTraces = false) (hO : OK x1 y1 q) (hk : k < 4) : XM l yX1_checkOthersAreNotAllGables cX1_checkOthersAreNotAllGables 3 none { frames := 6, cells := 1, slots := 6, locals := 82 } g [.ref o, .int (nI k)] (fun H => RP g o r A x1 y1 q H) 1 6 (rC (oth q k)) (xk true (oth q k) true) := by
  refine XM.of (by decide) (Nat.le_of_ble_eq_true rfl) (fun p e s m below meth c ls X hne hE hG hl => ?_)
  obtain ⟨hP, hF⟩ := hG
  have hq := hO.2.2.1
  have L4 : ∀ (H : Heap) (ls : Array Slot), hxt s.heap H → PP g [ob o x1 y1 r, ar g r A] H → RF g A q H → lv_has ls 3 [(2, .int (nI 4)), (0, .ref o), (1, .int (nI k))] → (!decide (0 = k) && !gab q 0) = false → (!decide (1 = k) && !gab q 1) = false → (!decide (2 = k) && !gab q 2) = false → (!decide (3 = k) && !gab q 3) = false → W p l e { frames := 6, cells := 1, slots := 6, locals := 82 } s m ([.ref o, .int (nI k)] : List Value).toArray below meth c H [] 0 0 (vx_MQ below (pQ (rC (oth q k))) (xQ (xk true (oth q k) true)) ([.ref o, .int (nI k)] : List Value).toArray s 1 6 (fun q => s.heap.size ≤ q)) (F0 m 2 ls []) := by
    intro H ls hX hP hF hl t0 t1 t2 t3
    refine lv_iload_n X.1 X.2.1 dX1_checkOthersAreNotAllGables_2 rfl (lv_at hl 0 rfl) ?_
    refine lv_iconst (v := nI 4) X.1 X.2.1 dX1_checkOthersAreNotAllGables_3 (by decide) ?_
    refine q_Ige X (by omega) (by omega) (tgt := 27) dX1_checkOthersAreNotAllGables_4 (by decide) (fun hB101 => ?_) (fun hB101 => ?_)
    ·
      exact x_throw (cls := eS) (names := ["java/lang/RuntimeException", "java/lang/Exception"]) X hne hE hl0 rfl (by decide) (by decide) ⟨mw_224, mw_47⟩ (hE.2.2.2.2.2.2.2) tS1 tS2 tS3 hX hl.1 dX1_checkOthersAreNotAllGables_27 dX1_checkOthersAreNotAllGables_30 dX1_checkOthersAreNotAllGables_31 dX1_checkOthersAreNotAllGables_33 dX1_checkOthersAreNotAllGables_36 ⟨by decide, by decide, by decide, by decide⟩ (Or.inr (Or.inl ⟨rfl, by rw [oth, t0, t1, t2, t3]; rfl, rfl⟩)) ⟨by decide, by decide⟩
    ·
      exact absurd hB101 (by decide)
  have L3 : ∀ (H : Heap) (ls : Array Slot), hxt s.heap H → PP g [ob o x1 y1 r, ar g r A] H → RF g A q H → lv_has ls 3 [(2, .int (nI 3)), (0, .ref o), (1, .int (nI k))] → (!decide (0 = k) && !gab q 0) = false → (!decide (1 = k) && !gab q 1) = false → (!decide (2 = k) && !gab q 2) = false → W p l e { frames := 6, cells := 1, slots := 6, locals := 82 } s m ([.ref o, .int (nI k)] : List Value).toArray below meth c H [] 0 0 (vx_MQ below (pQ (rC (oth q k))) (xQ (xk true (oth q k) true)) ([.ref o, .int (nI k)] : List Value).toArray s 1 6 (fun q => s.heap.size ≤ q)) (F0 m 2 ls []) := by
    intro H ls hX hP hF hl t0 t1 t2
    refine lv_iload_n X.1 X.2.1 dX1_checkOthersAreNotAllGables_2 rfl (lv_at hl 0 rfl) ?_
    refine lv_iconst (v := nI 4) X.1 X.2.1 dX1_checkOthersAreNotAllGables_3 (by decide) ?_
    refine q_Ige X (by omega) (by omega) (tgt := 27) dX1_checkOthersAreNotAllGables_4 (by decide) (fun hB101 => ?_) (fun hB101 => ?_)
    ·
      exact absurd hB101 (by decide)
    ·
      refine lv_iload_n X.1 X.2.1 dX1_checkOthersAreNotAllGables_7 rfl (lv_at hl 0 rfl) ?_
      refine lv_iload_n X.1 X.2.1 dX1_checkOthersAreNotAllGables_8 rfl (lv_at hl 2 rfl) ?_
      refine q_Ieq X (by omega) (by omega) (tgt := 21) dX1_checkOthersAreNotAllGables_9 (by decide) (fun hB102 => ?_) (fun hB102 => ?_)
      ·
        refine lv_iinc (v := nI (3 + 1)) (lv' := [(2, .int (nI (3 + 1))), (0, .ref o), (1, .int (nI k))]) X.1 X.2.1 dX1_checkOthersAreNotAllGables_21 hl (k := 0) rfl (nI_1 _) (by decide) rfl (fun ls hl => ?_)
        refine lv_goto (tgt := 2) X.1 X.2.1 dX1_checkOthersAreNotAllGables_24 (by decide) ?_
        exact L4 _ ls hX (hP.sub [0, 1] rfl) hF (lv_sub hl [0, 1, 2] rfl) t0 t1 t2 (by rw [decide_eq_true hB102]; rfl)
      ·
        refine lv_aload_n X.1 X.2.1 dX1_checkOthersAreNotAllGables_12 rfl (lv_at hl 1 rfl) ?_
        refine lv_iload_n X.1 X.2.1 dX1_checkOthersAreNotAllGables_13 rfl (lv_at hl 0 rfl) ?_
        refine p_callV (C := RX1) (b := o) (As := [.int (nI 3)]) (rest := []) X (c_X1_isGable l g o r A x1 y1 q 3 (by decide) (hq 3 (by decide))) ⟨mw_220, mw_222, mw_3, mw_38, mw_223⟩ sgX1_isGable ⟨rfl, rfl, ⟨by decide, by decide⟩, by decide, by decide⟩ (hP.at 0 rfl) rfl rfl (RP.of hP [0, 1] rfl hF) hX.1 rfl hl.1 rfl (Nat.le_of_ble_eq_true rfl) dX1_checkOthersAreNotAllGables_14 (fun v H103 hk104 hp => ?_)
        obtain rfl := hp
        have hX := hX.tr hk104
        have hP := PP.ext hP hk104
        have hF := RF.ext hF hk104
        refine W.eq (g2 := F0 m 17 ls [.int (bI (gab q 3))]) rfl ?_
        refine q_Bne X (tgt := 21) dX1_checkOthersAreNotAllGables_17 (by decide) (fun hB105 => ?_) (fun hB105 => ?_)
        ·
          refine lv_iinc (v := nI (3 + 1)) (lv' := [(2, .int (nI (3 + 1))), (0, .ref o), (1, .int (nI k))]) X.1 X.2.1 dX1_checkOthersAreNotAllGables_21 hl (k := 0) rfl (nI_1 _) (by decide) rfl (fun ls hl => ?_)
          refine lv_goto (tgt := 2) X.1 X.2.1 dX1_checkOthersAreNotAllGables_24 (by decide) ?_
          exact L4 _ ls hX (hP.sub [0, 1] rfl) hF (lv_sub hl [0, 1, 2] rfl) t0 t1 t2 (by rw [hB105]; simp)
        ·
          exact vx_ret (p_vret X hX (⟨rfl, by have h8 : decide (3 = k) = false := decide_eq_false hB102; rw [oth, h8, hB105]; simp⟩) ⟨by decide, by decide⟩ dX1_checkOthersAreNotAllGables_20)
  have L2 : ∀ (H : Heap) (ls : Array Slot), hxt s.heap H → PP g [ob o x1 y1 r, ar g r A] H → RF g A q H → lv_has ls 3 [(2, .int (nI 2)), (0, .ref o), (1, .int (nI k))] → (!decide (0 = k) && !gab q 0) = false → (!decide (1 = k) && !gab q 1) = false → W p l e { frames := 6, cells := 1, slots := 6, locals := 82 } s m ([.ref o, .int (nI k)] : List Value).toArray below meth c H [] 0 0 (vx_MQ below (pQ (rC (oth q k))) (xQ (xk true (oth q k) true)) ([.ref o, .int (nI k)] : List Value).toArray s 1 6 (fun q => s.heap.size ≤ q)) (F0 m 2 ls []) := by
    intro H ls hX hP hF hl t0 t1
    refine lv_iload_n X.1 X.2.1 dX1_checkOthersAreNotAllGables_2 rfl (lv_at hl 0 rfl) ?_
    refine lv_iconst (v := nI 4) X.1 X.2.1 dX1_checkOthersAreNotAllGables_3 (by decide) ?_
    refine q_Ige X (by omega) (by omega) (tgt := 27) dX1_checkOthersAreNotAllGables_4 (by decide) (fun hB101 => ?_) (fun hB101 => ?_)
    ·
      exact absurd hB101 (by decide)
    ·
      refine lv_iload_n X.1 X.2.1 dX1_checkOthersAreNotAllGables_7 rfl (lv_at hl 0 rfl) ?_
      refine lv_iload_n X.1 X.2.1 dX1_checkOthersAreNotAllGables_8 rfl (lv_at hl 2 rfl) ?_
      refine q_Ieq X (by omega) (by omega) (tgt := 21) dX1_checkOthersAreNotAllGables_9 (by decide) (fun hB102 => ?_) (fun hB102 => ?_)
      ·
        refine lv_iinc (v := nI (2 + 1)) (lv' := [(2, .int (nI (2 + 1))), (0, .ref o), (1, .int (nI k))]) X.1 X.2.1 dX1_checkOthersAreNotAllGables_21 hl (k := 0) rfl (nI_1 _) (by decide) rfl (fun ls hl => ?_)
        refine lv_goto (tgt := 2) X.1 X.2.1 dX1_checkOthersAreNotAllGables_24 (by decide) ?_
        exact L3 _ ls hX (hP.sub [0, 1] rfl) hF (lv_sub hl [0, 1, 2] rfl) t0 t1 (by rw [decide_eq_true hB102]; rfl)
      ·
        refine lv_aload_n X.1 X.2.1 dX1_checkOthersAreNotAllGables_12 rfl (lv_at hl 1 rfl) ?_
        refine lv_iload_n X.1 X.2.1 dX1_checkOthersAreNotAllGables_13 rfl (lv_at hl 0 rfl) ?_
        refine p_callV (C := RX1) (b := o) (As := [.int (nI 2)]) (rest := []) X (c_X1_isGable l g o r A x1 y1 q 2 (by decide) (hq 2 (by decide))) ⟨mw_220, mw_222, mw_3, mw_38, mw_223⟩ sgX1_isGable ⟨rfl, rfl, ⟨by decide, by decide⟩, by decide, by decide⟩ (hP.at 0 rfl) rfl rfl (RP.of hP [0, 1] rfl hF) hX.1 rfl hl.1 rfl (Nat.le_of_ble_eq_true rfl) dX1_checkOthersAreNotAllGables_14 (fun v H103 hk104 hp => ?_)
        obtain rfl := hp
        have hX := hX.tr hk104
        have hP := PP.ext hP hk104
        have hF := RF.ext hF hk104
        refine W.eq (g2 := F0 m 17 ls [.int (bI (gab q 2))]) rfl ?_
        refine q_Bne X (tgt := 21) dX1_checkOthersAreNotAllGables_17 (by decide) (fun hB105 => ?_) (fun hB105 => ?_)
        ·
          refine lv_iinc (v := nI (2 + 1)) (lv' := [(2, .int (nI (2 + 1))), (0, .ref o), (1, .int (nI k))]) X.1 X.2.1 dX1_checkOthersAreNotAllGables_21 hl (k := 0) rfl (nI_1 _) (by decide) rfl (fun ls hl => ?_)
          refine lv_goto (tgt := 2) X.1 X.2.1 dX1_checkOthersAreNotAllGables_24 (by decide) ?_
          exact L3 _ ls hX (hP.sub [0, 1] rfl) hF (lv_sub hl [0, 1, 2] rfl) t0 t1 (by rw [hB105]; simp)
        ·
          exact vx_ret (p_vret X hX (⟨rfl, by have h8 : decide (2 = k) = false := decide_eq_false hB102; rw [oth, h8, hB105]; simp⟩) ⟨by decide, by decide⟩ dX1_checkOthersAreNotAllGables_20)
  have L1 : ∀ (H : Heap) (ls : Array Slot), hxt s.heap H → PP g [ob o x1 y1 r, ar g r A] H → RF g A q H → lv_has ls 3 [(2, .int (nI 1)), (0, .ref o), (1, .int (nI k))] → (!decide (0 = k) && !gab q 0) = false → W p l e { frames := 6, cells := 1, slots := 6, locals := 82 } s m ([.ref o, .int (nI k)] : List Value).toArray below meth c H [] 0 0 (vx_MQ below (pQ (rC (oth q k))) (xQ (xk true (oth q k) true)) ([.ref o, .int (nI k)] : List Value).toArray s 1 6 (fun q => s.heap.size ≤ q)) (F0 m 2 ls []) := by
    intro H ls hX hP hF hl t0
    refine lv_iload_n X.1 X.2.1 dX1_checkOthersAreNotAllGables_2 rfl (lv_at hl 0 rfl) ?_
    refine lv_iconst (v := nI 4) X.1 X.2.1 dX1_checkOthersAreNotAllGables_3 (by decide) ?_
    refine q_Ige X (by omega) (by omega) (tgt := 27) dX1_checkOthersAreNotAllGables_4 (by decide) (fun hB101 => ?_) (fun hB101 => ?_)
    ·
      exact absurd hB101 (by decide)
    ·
      refine lv_iload_n X.1 X.2.1 dX1_checkOthersAreNotAllGables_7 rfl (lv_at hl 0 rfl) ?_
      refine lv_iload_n X.1 X.2.1 dX1_checkOthersAreNotAllGables_8 rfl (lv_at hl 2 rfl) ?_
      refine q_Ieq X (by omega) (by omega) (tgt := 21) dX1_checkOthersAreNotAllGables_9 (by decide) (fun hB102 => ?_) (fun hB102 => ?_)
      ·
        refine lv_iinc (v := nI (1 + 1)) (lv' := [(2, .int (nI (1 + 1))), (0, .ref o), (1, .int (nI k))]) X.1 X.2.1 dX1_checkOthersAreNotAllGables_21 hl (k := 0) rfl (nI_1 _) (by decide) rfl (fun ls hl => ?_)
        refine lv_goto (tgt := 2) X.1 X.2.1 dX1_checkOthersAreNotAllGables_24 (by decide) ?_
        exact L2 _ ls hX (hP.sub [0, 1] rfl) hF (lv_sub hl [0, 1, 2] rfl) t0 (by rw [decide_eq_true hB102]; rfl)
      ·
        refine lv_aload_n X.1 X.2.1 dX1_checkOthersAreNotAllGables_12 rfl (lv_at hl 1 rfl) ?_
        refine lv_iload_n X.1 X.2.1 dX1_checkOthersAreNotAllGables_13 rfl (lv_at hl 0 rfl) ?_
        refine p_callV (C := RX1) (b := o) (As := [.int (nI 1)]) (rest := []) X (c_X1_isGable l g o r A x1 y1 q 1 (by decide) (hq 1 (by decide))) ⟨mw_220, mw_222, mw_3, mw_38, mw_223⟩ sgX1_isGable ⟨rfl, rfl, ⟨by decide, by decide⟩, by decide, by decide⟩ (hP.at 0 rfl) rfl rfl (RP.of hP [0, 1] rfl hF) hX.1 rfl hl.1 rfl (Nat.le_of_ble_eq_true rfl) dX1_checkOthersAreNotAllGables_14 (fun v H103 hk104 hp => ?_)
        obtain rfl := hp
        have hX := hX.tr hk104
        have hP := PP.ext hP hk104
        have hF := RF.ext hF hk104
        refine W.eq (g2 := F0 m 17 ls [.int (bI (gab q 1))]) rfl ?_
        refine q_Bne X (tgt := 21) dX1_checkOthersAreNotAllGables_17 (by decide) (fun hB105 => ?_) (fun hB105 => ?_)
        ·
          refine lv_iinc (v := nI (1 + 1)) (lv' := [(2, .int (nI (1 + 1))), (0, .ref o), (1, .int (nI k))]) X.1 X.2.1 dX1_checkOthersAreNotAllGables_21 hl (k := 0) rfl (nI_1 _) (by decide) rfl (fun ls hl => ?_)
          refine lv_goto (tgt := 2) X.1 X.2.1 dX1_checkOthersAreNotAllGables_24 (by decide) ?_
          exact L2 _ ls hX (hP.sub [0, 1] rfl) hF (lv_sub hl [0, 1, 2] rfl) t0 (by rw [hB105]; simp)
        ·
          exact vx_ret (p_vret X hX (⟨rfl, by have h8 : decide (1 = k) = false := decide_eq_false hB102; rw [oth, h8, hB105]; simp⟩) ⟨by decide, by decide⟩ dX1_checkOthersAreNotAllGables_20)
  have L0 : ∀ (H : Heap) (ls : Array Slot), hxt s.heap H → PP g [ob o x1 y1 r, ar g r A] H → RF g A q H → lv_has ls 3 [(2, .int (nI 0)), (0, .ref o), (1, .int (nI k))] → W p l e { frames := 6, cells := 1, slots := 6, locals := 82 } s m ([.ref o, .int (nI k)] : List Value).toArray below meth c H [] 0 0 (vx_MQ below (pQ (rC (oth q k))) (xQ (xk true (oth q k) true)) ([.ref o, .int (nI k)] : List Value).toArray s 1 6 (fun q => s.heap.size ≤ q)) (F0 m 2 ls []) := by
    intro H ls hX hP hF hl
    refine lv_iload_n X.1 X.2.1 dX1_checkOthersAreNotAllGables_2 rfl (lv_at hl 0 rfl) ?_
    refine lv_iconst (v := nI 4) X.1 X.2.1 dX1_checkOthersAreNotAllGables_3 (by decide) ?_
    refine q_Ige X (by omega) (by omega) (tgt := 27) dX1_checkOthersAreNotAllGables_4 (by decide) (fun hB101 => ?_) (fun hB101 => ?_)
    ·
      exact absurd hB101 (by decide)
    ·
      refine lv_iload_n X.1 X.2.1 dX1_checkOthersAreNotAllGables_7 rfl (lv_at hl 0 rfl) ?_
      refine lv_iload_n X.1 X.2.1 dX1_checkOthersAreNotAllGables_8 rfl (lv_at hl 2 rfl) ?_
      refine q_Ieq X (by omega) (by omega) (tgt := 21) dX1_checkOthersAreNotAllGables_9 (by decide) (fun hB102 => ?_) (fun hB102 => ?_)
      ·
        refine lv_iinc (v := nI (0 + 1)) (lv' := [(2, .int (nI (0 + 1))), (0, .ref o), (1, .int (nI k))]) X.1 X.2.1 dX1_checkOthersAreNotAllGables_21 hl (k := 0) rfl (nI_1 _) (by decide) rfl (fun ls hl => ?_)
        refine lv_goto (tgt := 2) X.1 X.2.1 dX1_checkOthersAreNotAllGables_24 (by decide) ?_
        exact L1 _ ls hX (hP.sub [0, 1] rfl) hF (lv_sub hl [0, 1, 2] rfl) (by rw [decide_eq_true hB102]; rfl)
      ·
        refine lv_aload_n X.1 X.2.1 dX1_checkOthersAreNotAllGables_12 rfl (lv_at hl 1 rfl) ?_
        refine lv_iload_n X.1 X.2.1 dX1_checkOthersAreNotAllGables_13 rfl (lv_at hl 0 rfl) ?_
        refine p_callV (C := RX1) (b := o) (As := [.int (nI 0)]) (rest := []) X (c_X1_isGable l g o r A x1 y1 q 0 (by decide) (hq 0 (by decide))) ⟨mw_220, mw_222, mw_3, mw_38, mw_223⟩ sgX1_isGable ⟨rfl, rfl, ⟨by decide, by decide⟩, by decide, by decide⟩ (hP.at 0 rfl) rfl rfl (RP.of hP [0, 1] rfl hF) hX.1 rfl hl.1 rfl (Nat.le_of_ble_eq_true rfl) dX1_checkOthersAreNotAllGables_14 (fun v H103 hk104 hp => ?_)
        obtain rfl := hp
        have hX := hX.tr hk104
        have hP := PP.ext hP hk104
        have hF := RF.ext hF hk104
        refine W.eq (g2 := F0 m 17 ls [.int (bI (gab q 0))]) rfl ?_
        refine q_Bne X (tgt := 21) dX1_checkOthersAreNotAllGables_17 (by decide) (fun hB105 => ?_) (fun hB105 => ?_)
        ·
          refine lv_iinc (v := nI (0 + 1)) (lv' := [(2, .int (nI (0 + 1))), (0, .ref o), (1, .int (nI k))]) X.1 X.2.1 dX1_checkOthersAreNotAllGables_21 hl (k := 0) rfl (nI_1 _) (by decide) rfl (fun ls hl => ?_)
          refine lv_goto (tgt := 2) X.1 X.2.1 dX1_checkOthersAreNotAllGables_24 (by decide) ?_
          exact L1 _ ls hX (hP.sub [0, 1] rfl) hF (lv_sub hl [0, 1, 2] rfl) (by rw [hB105]; simp)
        ·
          exact vx_ret (p_vret X hX (⟨rfl, by have h8 : decide (0 = k) = false := decide_eq_false hB102; rw [oth, h8, hB105]; simp⟩) ⟨by decide, by decide⟩ dX1_checkOthersAreNotAllGables_20)
  have hl : lv_has ls 3 [(0, .ref o), (1, .int (nI k))] := hl
  have hX : hxt s.heap s.heap := hxt.rf
  have hP : PP g [ob o x1 y1 r, ar g r A] s.heap := hP
  refine lv_iconst (v := nI 0) X.1 X.2.1 dX1_checkOthersAreNotAllGables_0 (by decide) ?_
  refine lv_istore_n (lv' := [(2, .int (nI 0)), (0, .ref o), (1, .int (nI k))]) X.1 X.2.1 dX1_checkOthersAreNotAllGables_1 rfl hl (by decide) rfl (fun ls hl => ?_)
  exact L0 _ ls hX hP hF (lv_sub hl [0, 1, 2] rfl)
end
section
def rK (a s g : Bool) (val : Value) : Option Value → Heap → Prop := fun v _ => (a = true ∧ s = true ∧ g = true) ∧ v = some val
def prt (x : Rat) (p : Nat) : Nat := if p = 0 then nu x else x.den
def lenv (S : Rat) (j : Nat) : Nat := if j = 0 ∨ isq (nu S / S.den) * isq (nu S / S.den) * S.den = nu S then isq (nu S / S.den) else isq (nu S / S.den) + 1
theorem sq_le {a n : Nat} (h : a * a ≤ n) : a ≤ n := by
  rcases Nat.eq_zero_or_pos a with h9 | h9
  · omega
  · exact Nat.le_trans (Nat.le_mul_of_pos_left a h9) h
theorem andL {a b : Bool} (h : (a && b) = true) : a = true ∧ b = true := by simpa using h
theorem notL {a : Bool} (h : (!a) = true) : a = false := by simpa using h
theorem lwp_ok {X Y : Nat} {q : Nat → Rat} (h : OK X Y q) (x y : Nat) : lwp X Y q x y 3 < 4 ∧ gab q (lwp X Y q x y 3) = false := by
  refine ⟨Nat.lt_of_le_of_lt (lwp_le _ _ _ _ _ _) (by decide), ?_⟩
  have key : ∀ n, (∃ j, j ≤ n ∧ gab q j = false) → gab q (lwp X Y q x y n) = false := by
    intro n
    induction n with
    | zero => rintro ⟨j, hj, hg⟩; rw [show j = 0 by omega] at hg; exact hg
    | succ n ih =>
      rintro ⟨j, hj, hg⟩
      rw [lwp]
      split
      · rename_i h1; exact h1.1
      · rename_i h1
        by_cases h2 : gab q (lwp X Y q x y n) = true
        · exfalso
          by_cases h3 : gab q (n + 1) = false
          · exact h1 ⟨h3, Or.inl h2⟩
          · by_cases h4 : j = n + 1
            · rw [h4] at hg; exact h3 hg
            · rw [ih ⟨j, by omega, hg⟩] at h2; cases h2
        · simpa using h2
  obtain ⟨k, hk, hne⟩ := h.2.2.2
  exact key 3 ⟨k, by omega, decide_eq_false hne⟩
set_option maxHeartbeats 4000000 in
set_option maxRecDepth 100000 in
theorem c_X1_end (l : Launch) (g : En) (o r : Nat) (A : Nat → Nat) (x1 y1 : Nat) (q : Nat → Rat) (i : Int32) (v0 : Int64) (j : Int32) (hl0 : l.stackTraces = false) (hO : OK x1 y1 q) : XM l yX1_end cX1_end 5 (some FieldType.long) { frames := 8, cells := 22, slots := 60, locals := 158 } g [.ref o, .int i, .long v0, .int j] (fun H => RP g o r A x1 y1 q H) 22 60 (rK (inI i 4 && inI j 2) (!gab q (toN i)) (inL v0 0 (slen x1 y1 (toN i))) (.long (lN (prt (raf x1 y1 q (toN i) (toL v0)) (toN j))))) (xk (inI i 4 && inI j 2) (!gab q (toN i)) (inL v0 0 (slen x1 y1 (toN i)))) := by
  refine XM.of (by decide) (Nat.le_of_ble_eq_true rfl) (fun p e s m below meth c ls X hne hE hG hl => ?_)
  obtain ⟨hP, hF⟩ := hG
  have hl : lv_has ls 5 [(0, .ref o), (1, .int i), (2, .long v0), (4, .int j)] := hl
  have hX : hxt s.heap s.heap := hxt.rf
  have hP : PP g [ob o x1 y1 r, ar g r A] s.heap := hP
  refine lv_iload_n X.1 X.2.1 dX1_end_0 rfl (lv_at hl 1 rfl) ?_
  refine lv_iconst (v := nI 4) X.1 X.2.1 dX1_end_1 (by decide) ?_
  refine x_callS (As := [.int i, .int (nI 4)]) (rest := []) X hne hE (c_X1_checkIndex l g i 4 hl0 (by decide)) ⟨mw_175, mw_176, mw_38, mw_177⟩ sgX1_checkIndex ⟨rfl, rfl, ⟨by decide, by decide⟩, by decide, by decide⟩ (trivial) hX rfl hl.1 rfl (Nat.le_of_ble_eq_true rfl) dX1_end_2 (fun E h => xk_A (fun h9 => by simp only [h9, Bool.false_and, Bool.and_false, Bool.true_and]) h) ⟨by decide, by decide⟩ (fun v H1 hk2 hp => ?_)
  obtain ⟨rfl, hi⟩ := hp
  have hX := hX.tr hk2
  have hP := PP.ext hP hk2
  have hF := RF.ext hF hk2
  refine W.eq (g2 := F0 m 5 ls []) rfl ?_
  obtain ⟨k, hk, rfl⟩ := inI_of hi (by decide)
  have ek : toN (nI k) = k := toN_k (by omega)
  refine lv_iload X.1 X.2.1 dX1_end_5 (lv_at hl 3 rfl) ?_
  refine lv_iconst (v := nI 2) X.1 X.2.1 dX1_end_7 (by decide) ?_
  refine x_callS (As := [.int j, .int (nI 2)]) (rest := []) X hne hE (c_X1_checkIndex l g j 2 hl0 (by decide)) ⟨mw_175, mw_176, mw_38, mw_177⟩ sgX1_checkIndex ⟨rfl, rfl, ⟨by decide, by decide⟩, by decide, by decide⟩ (trivial) hX rfl hl.1 rfl (Nat.le_of_ble_eq_true rfl) dX1_end_8 (fun E h => xk_A (fun h9 => by simp only [h9, hi, Bool.false_and, Bool.and_false, Bool.true_and]) h) ⟨by decide, by decide⟩ (fun v H3 hk4 hp => ?_)
  obtain ⟨rfl, hj⟩ := hp
  have hX := hX.tr hk4
  have hP := PP.ext hP hk4
  have hF := RF.ext hF hk4
  refine W.eq (g2 := F0 m 11 ls []) rfl ?_
  obtain ⟨pn, hpn, rfl⟩ := inI_of hj (by decide)
  have epn : toN (nI pn) = pn := toN_k (by omega)
  refine lv_aload_n X.1 X.2.1 dX1_end_11 rfl (lv_at hl 0 rfl) ?_
  refine lv_iload_n X.1 X.2.1 dX1_end_12 rfl (lv_at hl 1 rfl) ?_
  refine lv_lload_n X.1 X.2.1 dX1_end_13 rfl (lv_at hl 2 rfl) ?_
  have hsl := slen_le hO k
  refine x_callV (C := RX1) (b := o) (As := [.int (nI k), .long v0]) (rest := []) X hne hE (c_X1_checkRafter l g o r A x1 y1 q k v0 hl0 hO hk) ⟨mw_309, mw_311, mw_11, mw_38, mw_312⟩ sgX1_checkRafter ⟨rfl, rfl, ⟨by decide, by decide⟩, by decide, by decide⟩ (hP.at 0 rfl) rfl rfl (RP.of hP [0, 1] rfl hF) hX rfl hl.1 rfl (Nat.le_of_ble_eq_true rfl) dX1_end_14 (fun E h => xk_SG (by simp only [hi, hj, Bool.and_self]) (by rw [ek]) (by rw [ek]) h) ⟨by decide, by decide⟩ (fun v H5 hk6 hp => ?_)
  obtain ⟨rfl, hr⟩ := hp
  have hX := hX.tr hk6
  have hP := PP.ext hP hk6
  have hF := RF.ext hF hk6
  refine W.eq (g2 := F0 m 17 ls []) rfl ?_
  obtain ⟨hr1, hr2⟩ := andL hr
  have hg := notL hr1
  obtain ⟨t, -, ht, rfl⟩ := inL_of hr2 (by omega)
  have eT : toL (lN t) = t := toL_k (by omega)
  refine lv_aload_n X.1 X.2.1 dX1_end_17 rfl (lv_at hl 0 rfl) ?_
  refine lv_iload_n X.1 X.2.1 dX1_end_18 rfl (lv_at hl 1 rfl) ?_
  refine lv_lload_n X.1 X.2.1 dX1_end_19 rfl (lv_at hl 2 rfl) ?_
  refine p_callV (C := RX1) (b := o) (As := [.int (nI k), .long (lN t)]) (rest := []) X (c_X1_rafterEnd l g o r A x1 y1 q k t hO hk ht hg) ⟨mw_313, mw_315, mw_12, mw_38, mw_316⟩ sgX1_rafterEnd ⟨rfl, rfl, ⟨by decide, by decide⟩, by decide, by decide⟩ (hP.at 0 rfl) rfl rfl (RP.of hP [0, 1] rfl hF) hX.1 rfl hl.1 rfl (Nat.le_of_ble_eq_true rfl) dX1_end_20 (fun v H7 hk8 hp => ?_)
  obtain ⟨r9, rfl, hr9⟩ := hp
  have hX := hX.tr hk8
  have hP := PP.ext hP hk8
  have hF := RF.ext hF hk8
  have hP := PP.cons hr9 hP
  refine W.eq (g2 := F0 m 23 ls [.ref r9]) rfl ?_
  refine lv_iload X.1 X.2.1 dX1_end_23 (lv_at hl 3 rfl) ?_
  refine p_callV (C := RX0) (b := r9) (As := [.int (nI pn)]) (rest := []) X (c_X0_part l g _ pn _ hpn) ⟨mw_271, mw_272, mw_273, mw_39, mw_274⟩ sgX0_part ⟨rfl, rfl, ⟨by decide, by decide⟩, by decide, by decide⟩ (hP.at 0 rfl) rfl rfl (hP.sub [0] rfl) hX.1 rfl hl.1 rfl (Nat.le_of_ble_eq_true rfl) dX1_end_25 (fun v H10 hk11 hp => ?_)
  obtain rfl := hp
  have hX := hX.tr hk11
  have hP := PP.ext hP hk11
  have hF := RF.ext hF hk11
  refine W.eq (g2 := F0 m 28 ls [.long (lN (prt (raf x1 y1 q k t) pn))]) rfl ?_
  exact vx_ret (p_lret X hX (⟨⟨by simp only [hi, hj, Bool.and_self], by rw [ek, hg]; rfl, by rw [ek]; exact hr2⟩, by simp only [ek, eT, epn]⟩) ⟨by decide, by decide⟩ dX1_end_28)
set_option maxHeartbeats 4000000 in
set_option maxRecDepth 100000 in
theorem c_X1_against (l : Launch) (g : En) (o r : Nat) (A : Nat → Nat) (x1 y1 : Nat) (q : Nat → Rat) (i : Int32) (v0 : Int64) (hl0 : l.stackTraces = false) (hO : OK x1 y1 q) : XM l yX1_against cX1_against 4 (some FieldType.int) { frames := 8, cells := 18, slots := 48, locals := 135 } g [.ref o, .int i, .long v0] (fun H => RP g o r A x1 y1 q H) 18 48 (rK (inI i 4) (!gab q (toN i)) (inL v0 0 (slen x1 y1 (toN i))) (.int (nI (enp x1 y1 q (toN i) (toL v0) 4)))) (xk (inI i 4) (!gab q (toN i)) (inL v0 0 (slen x1 y1 (toN i)))) := by
  refine XM.of (by decide) (Nat.le_of_ble_eq_true rfl) (fun p e s m below meth c ls X hne hE hG hl => ?_)
  obtain ⟨hP, hF⟩ := hG
  have hl : lv_has ls 4 [(0, .ref o), (1, .int i), (2, .long v0)] := hl
  have hX : hxt s.heap s.heap := hxt.rf
  have hP : PP g [ob o x1 y1 r, ar g r A] s.heap := hP
  refine lv_iload_n X.1 X.2.1 dX1_against_0 rfl (lv_at hl 1 rfl) ?_
  refine lv_iconst (v := nI 4) X.1 X.2.1 dX1_against_1 (by decide) ?_
  refine x_callS (As := [.int i, .int (nI 4)]) (rest := []) X hne hE (c_X1_checkIndex l g i 4 hl0 (by decide)) ⟨mw_175, mw_176, mw_38, mw_177⟩ sgX1_checkIndex ⟨rfl, rfl, ⟨by decide, by decide⟩, by decide, by decide⟩ (trivial) hX rfl hl.1 rfl (Nat.le_of_ble_eq_true rfl) dX1_against_2 (fun E h => xk_A (fun h9 => by simp only [h9, Bool.false_and, Bool.and_false, Bool.true_and]) h) ⟨by decide, by decide⟩ (fun v H1 hk2 hp => ?_)
  obtain ⟨rfl, hi⟩ := hp
  have hX := hX.tr hk2
  have hP := PP.ext hP hk2
  have hF := RF.ext hF hk2
  refine W.eq (g2 := F0 m 5 ls []) rfl ?_
  obtain ⟨k, hk, rfl⟩ := inI_of hi (by decide)
  have ek : toN (nI k) = k := toN_k (by omega)
  refine lv_aload_n X.1 X.2.1 dX1_against_5 rfl (lv_at hl 0 rfl) ?_
  refine lv_iload_n X.1 X.2.1 dX1_against_6 rfl (lv_at hl 1 rfl) ?_
  refine lv_lload_n X.1 X.2.1 dX1_against_7 rfl (lv_at hl 2 rfl) ?_
  have hsl := slen_le hO k
  refine x_callV (C := RX1) (b := o) (As := [.int (nI k), .long v0]) (rest := []) X hne hE (c_X1_checkRafter l g o r A x1 y1 q k v0 hl0 hO hk) ⟨mw_309, mw_311, mw_11, mw_38, mw_312⟩ sgX1_checkRafter ⟨rfl, rfl, ⟨by decide, by decide⟩, by decide, by decide⟩ (hP.at 0 rfl) rfl rfl (RP.of hP [0, 1] rfl hF) hX rfl hl.1 rfl (Nat.le_of_ble_eq_true rfl) dX1_against_8 (fun E h => xk_SG (by simp only [hi, Bool.and_self]) (by rw [ek]) (by rw [ek]) h) ⟨by decide, by decide⟩ (fun v H3 hk4 hp => ?_)
  obtain ⟨rfl, hr⟩ := hp
  have hX := hX.tr hk4
  have hP := PP.ext hP hk4
  have hF := RF.ext hF hk4
  refine W.eq (g2 := F0 m 11 ls []) rfl ?_
  obtain ⟨hr1, hr2⟩ := andL hr
  have hg := notL hr1
  obtain ⟨t, -, ht, rfl⟩ := inL_of hr2 (by omega)
  have eT : toL (lN t) = t := toL_k (by omega)
  refine lv_aload_n X.1 X.2.1 dX1_against_11 rfl (lv_at hl 0 rfl) ?_
  refine lv_iload_n X.1 X.2.1 dX1_against_12 rfl (lv_at hl 1 rfl) ?_
  refine lv_lload_n X.1 X.2.1 dX1_against_13 rfl (lv_at hl 2 rfl) ?_
  refine p_callV (C := RX1) (b := o) (As := [.int (nI k), .long (lN t)]) (rest := []) X (c_X1_endingSide l g o r A x1 y1 q k t hO hk ht hg) ⟨mw_317, mw_319, mw_13, mw_38, mw_320⟩ sgX1_endingSide ⟨rfl, rfl, ⟨by decide, by decide⟩, by decide, by decide⟩ (hP.at 0 rfl) rfl rfl (RP.of hP [0, 1] rfl hF) hX.1 rfl hl.1 rfl (Nat.le_of_ble_eq_true rfl) dX1_against_14 (fun v H5 hk6 hp => ?_)
  obtain rfl := hp
  have hX := hX.tr hk6
  have hP := PP.ext hP hk6
  have hF := RF.ext hF hk6
  refine W.eq (g2 := F0 m 17 ls [.int (nI (enp x1 y1 q k t 4))]) rfl ?_
  exact vx_ret (p_iret X hX (⟨⟨by simp only [hi], by rw [ek, hg]; rfl, by rw [ek]; exact hr2⟩, by simp only [ek, eT]⟩) ⟨by decide, by decide⟩ dX1_against_17)
set_option maxHeartbeats 4000000 in
set_option maxRecDepth 100000 in
theorem c_X1_length (l : Launch) (g : En) (o r : Nat) (A : Nat → Nat) (x1 y1 : Nat) (q : Nat → Rat) (i : Int32) (v0 : Int64) (j : Int32) (hl0 : l.stackTraces = false) (hO : OK x1 y1 q) : XM l yX1_length cX1_length 9 (some FieldType.long) { frames := 8, cells := 28, slots := 72, locals := 158 } g [.ref o, .int i, .long v0, .int j] (fun H => RP g o r A x1 y1 q H) 28 72 (rK (inI i 4 && inI j 2) (!gab q (toN i)) (inL v0 0 (slen x1 y1 (toN i))) (.long (lN (lenv (sqr q (toN i) (raf x1 y1 q (toN i) (toL v0))) (toN j))))) (xk (inI i 4 && inI j 2) (!gab q (toN i)) (inL v0 0 (slen x1 y1 (toN i)))) := by
  refine XM.of (by decide) (Nat.le_of_ble_eq_true rfl) (fun p e s m below meth c ls X hne hE hG hl => ?_)
  obtain ⟨hP, hF⟩ := hG
  have hl : lv_has ls 9 [(0, .ref o), (1, .int i), (2, .long v0), (4, .int j)] := hl
  have hX : hxt s.heap s.heap := hxt.rf
  have hP : PP g [ob o x1 y1 r, ar g r A] s.heap := hP
  refine lv_iload_n X.1 X.2.1 dX1_length_0 rfl (lv_at hl 1 rfl) ?_
  refine lv_iconst (v := nI 4) X.1 X.2.1 dX1_length_1 (by decide) ?_
  refine x_callS (As := [.int i, .int (nI 4)]) (rest := []) X hne hE (c_X1_checkIndex l g i 4 hl0 (by decide)) ⟨mw_175, mw_176, mw_38, mw_177⟩ sgX1_checkIndex ⟨rfl, rfl, ⟨by decide, by decide⟩, by decide, by decide⟩ (trivial) hX rfl hl.1 rfl (Nat.le_of_ble_eq_true rfl) dX1_length_2 (fun E h => xk_A (fun h9 => by simp only [h9, Bool.false_and, Bool.and_false, Bool.true_and]) h) ⟨by decide, by decide⟩ (fun v H1 hk2 hp => ?_)
  obtain ⟨rfl, hi⟩ := hp
  have hX := hX.tr hk2
  have hP := PP.ext hP hk2
  have hF := RF.ext hF hk2
  refine W.eq (g2 := F0 m 5 ls []) rfl ?_
  obtain ⟨k, hk, rfl⟩ := inI_of hi (by decide)
  have ek : toN (nI k) = k := toN_k (by omega)
  refine lv_iload X.1 X.2.1 dX1_length_5 (lv_at hl 3 rfl) ?_
  refine lv_iconst (v := nI 2) X.1 X.2.1 dX1_length_7 (by decide) ?_
  refine x_callS (As := [.int j, .int (nI 2)]) (rest := []) X hne hE (c_X1_checkIndex l g j 2 hl0 (by decide)) ⟨mw_175, mw_176, mw_38, mw_177⟩ sgX1_checkIndex ⟨rfl, rfl, ⟨by decide, by decide⟩, by decide, by decide⟩ (trivial) hX rfl hl.1 rfl (Nat.le_of_ble_eq_true rfl) dX1_length_8 (fun E h => xk_A (fun h9 => by simp only [h9, hi, Bool.false_and, Bool.and_false, Bool.true_and]) h) ⟨by decide, by decide⟩ (fun v H3 hk4 hp => ?_)
  obtain ⟨rfl, hj⟩ := hp
  have hX := hX.tr hk4
  have hP := PP.ext hP hk4
  have hF := RF.ext hF hk4
  refine W.eq (g2 := F0 m 11 ls []) rfl ?_
  obtain ⟨pn, hpn, rfl⟩ := inI_of hj (by decide)
  have epn : toN (nI pn) = pn := toN_k (by omega)
  refine lv_aload_n X.1 X.2.1 dX1_length_11 rfl (lv_at hl 0 rfl) ?_
  refine lv_iload_n X.1 X.2.1 dX1_length_12 rfl (lv_at hl 1 rfl) ?_
  refine lv_lload_n X.1 X.2.1 dX1_length_13 rfl (lv_at hl 2 rfl) ?_
  have hsl := slen_le hO k
  refine x_callV (C := RX1) (b := o) (As := [.int (nI k), .long v0]) (rest := []) X hne hE (c_X1_checkRafter l g o r A x1 y1 q k v0 hl0 hO hk) ⟨mw_309, mw_311, mw_11, mw_38, mw_312⟩ sgX1_checkRafter ⟨rfl, rfl, ⟨by decide, by decide⟩, by decide, by decide⟩ (hP.at 0 rfl) rfl rfl (RP.of hP [0, 1] rfl hF) hX rfl hl.1 rfl (Nat.le_of_ble_eq_true rfl) dX1_length_14 (fun E h => xk_SG (by simp only [hi, hj, Bool.and_self]) (by rw [ek]) (by rw [ek]) h) ⟨by decide, by decide⟩ (fun v H5 hk6 hp => ?_)
  obtain ⟨rfl, hr⟩ := hp
  have hX := hX.tr hk6
  have hP := PP.ext hP hk6
  have hF := RF.ext hF hk6
  refine W.eq (g2 := F0 m 17 ls []) rfl ?_
  obtain ⟨hr1, hr2⟩ := andL hr
  have hg := notL hr1
  obtain ⟨t, -, ht, rfl⟩ := inL_of hr2 (by omega)
  have eT : toL (lN t) = t := toL_k (by omega)
  refine lv_aload_n X.1 X.2.1 dX1_length_17 rfl (lv_at hl 0 rfl) ?_
  refine lv_iload_n X.1 X.2.1 dX1_length_18 rfl (lv_at hl 1 rfl) ?_
  refine lv_aload_n X.1 X.2.1 dX1_length_19 rfl (lv_at hl 0 rfl) ?_
  refine lv_iload_n X.1 X.2.1 dX1_length_20 rfl (lv_at hl 1 rfl) ?_
  refine lv_lload_n X.1 X.2.1 dX1_length_21 rfl (lv_at hl 2 rfl) ?_
  have bz := bd_raf hO hk ht hg
  have bs := bd_sqr (hO.2.2.1 k hk) (gab_pos (hO.2.2.1 k hk) hg) bz
  refine p_callV (C := RX1) (b := o) (As := [.int (nI k), .long (lN t)]) (rest := [.int (nI k), .ref o]) X (c_X1_rafterEnd l g o r A x1 y1 q k t hO hk ht hg) ⟨mw_313, mw_315, mw_12, mw_38, mw_316⟩ sgX1_rafterEnd ⟨rfl, rfl, ⟨by decide, by decide⟩, by decide, by decide⟩ (hP.at 0 rfl) rfl rfl (RP.of hP [0, 1] rfl hF) hX.1 rfl hl.1 rfl (Nat.le_of_ble_eq_true rfl) dX1_length_22 (fun v H7 hk8 hp => ?_)
  obtain ⟨r9, rfl, hr9⟩ := hp
  have hX := hX.tr hk8
  have hP := PP.ext hP hk8
  have hF := RF.ext hF hk8
  have hP := PP.cons hr9 hP
  refine W.eq (g2 := F0 m 25 ls [.ref r9, .int (nI k), .ref o]) rfl ?_
  refine p_callV (C := RX1) (b := o) (As := [.int (nI k), .ref r9]) (rest := []) X (c_X1_squareAlongSlope l g o r A x1 y1 q k r9 _ hO hk hg bz) ⟨mw_360, mw_362, mw_16, mw_38, mw_363⟩ sgX1_squareAlongSlope ⟨rfl, rfl, ⟨by decide, by decide⟩, by decide, by decide⟩ (hP.at 1 rfl) rfl rfl (⟨RP.of hP [1, 2] rfl hF, hP.at 0 rfl⟩) hX.1 rfl hl.1 rfl (Nat.le_of_ble_eq_true rfl) dX1_length_25 (fun v H10 hk11 hp => ?_)
  obtain ⟨r12, rfl, hr12⟩ := hp
  have hX := hX.tr hk11
  have hP := PP.ext hP hk11
  have hF := RF.ext hF hk11
  have hP := PP.cons hr12 hP
  refine W.eq (g2 := F0 m 28 ls [.ref r12]) rfl ?_
  refine lv_astore (lv' := [(5, .ref r12), (0, .ref o), (1, .int (nI k)), (2, .long (lN t)), (4, .int (nI pn))]) X.1 X.2.1 dX1_length_28 hl (by decide) rfl (fun ls hl => ?_)
  refine lv_aload X.1 X.2.1 dX1_length_30 (lv_at hl 0 rfl) ?_
  generalize hSS : sqr q k (raf x1 y1 q k t) = SS at bs hP
  refine p_callV (C := RX0) (b := r12) (As := []) (rest := []) X (b_cut l g _ bs (by decide) (by decide)) ⟨mw_372, mw_373, mw_374, mw_39, mw_375⟩ sgX0_cutOff ⟨rfl, rfl, ⟨by decide, by decide⟩, by decide, by decide⟩ (hP.at 0 rfl) rfl rfl (hP.sub [0] rfl) hX.1 rfl hl.1 rfl (Nat.le_of_ble_eq_true rfl) dX1_length_32 (fun v H13 hk14 hp => ?_)
  obtain rfl := hp
  have hX := hX.tr hk14
  have hP := PP.ext hP hk14
  have hF := RF.ext hF hk14
  refine W.eq (g2 := F0 m 35 ls [.long (lN (nu SS / SS.den))]) rfl ?_
  have hn1 := bs.2.1
  have hd0 := dn_pos SS
  have hq9 : nu SS / SS.den ≤ nu SS := Nat.div_le_self _ _
  have hsq := isq_ok (n := nu SS / SS.den) (by omega)
  refine p_callS (As := [.long (lN (nu SS / SS.den))]) (rest := []) X (c_X1_root l g _ (by omega)) ⟨mw_376, mw_377, mw_38, mw_378⟩ sgX1_root ⟨rfl, rfl, ⟨by decide, by decide⟩, by decide, by decide⟩ (trivial) hX.1 rfl hl.1 rfl (Nat.le_of_ble_eq_true rfl) dX1_length_35 (fun v H15 hk16 hp => ?_)
  obtain rfl := hp
  have hX := hX.tr hk16
  have hP := PP.ext hP hk16
  have hF := RF.ext hF hk16
  refine W.eq (g2 := F0 m 38 ls [.long (lN (isq (nu SS / SS.den)))]) rfl ?_
  have hw9 : isq (nu SS / SS.den) * isq (nu SS / SS.den) * SS.den ≤ nu SS := Nat.le_trans (Nat.mul_le_mul_right _ hsq.1) (Nat.div_mul_le_self _ _)
  generalize hcc : isq (nu SS / SS.den) = cc at hw9 hsq ⊢
  have hl := hl
  refine lv_lstore (lv' := [(6, .long (lN cc)), (5, .ref r12), (0, .ref o), (1, .int (nI k)), (2, .long (lN t)), (4, .int (nI pn))]) X.1 X.2.1 dX1_length_38 hl (by decide) rfl (fun ls hl => ?_)
  refine lv_lload X.1 X.2.1 dX1_length_40 (lv_at hl 0 rfl) ?_
  refine lv_lload X.1 X.2.1 dX1_length_42 (lv_at hl 0 rfl) ?_
  refine lv_lmul X.1 X.2.1 dX1_length_44 ?_
  refine w_l (lN_mul _ _) ?_
  refine lv_aload X.1 X.2.1 dX1_length_45 (lv_at hl 1 rfl) ?_
  refine p_get (T := TX0) X uX0 (hP.at 0 rfl) rfl 1 (by decide) mw_71 rfl rfl dX1_length_47 ?_
  refine lv_lmul X.1 X.2.1 dX1_length_50 ?_
  refine w_l (lN_mul _ _) ?_
  refine lv_aload X.1 X.2.1 dX1_length_51 (lv_at hl 1 rfl) ?_
  refine p_get (T := TX0) X uX0 (hP.at 0 rfl) rfl 0 (by decide) mw_69 rfl rfl dX1_length_53 ?_
  refine q_Nne X (by omega) (by omega) (tgt := 64) dX1_length_56 dX1_length_57 (by decide) (fun hB17 => ?_) (fun hB17 => ?_)
  ·
    refine lv_iconst (v := nI 0) X.1 X.2.1 dX1_length_64 (by decide) ?_
    refine lv_istore (lv' := [(8, .int (nI 0)), (6, .long (lN cc)), (5, .ref r12), (0, .ref o), (1, .int (nI k)), (2, .long (lN t)), (4, .int (nI pn))]) X.1 X.2.1 dX1_length_65 hl (by decide) rfl (fun ls hl => ?_)
    refine lv_iload X.1 X.2.1 dX1_length_67 (lv_at hl 6 rfl) ?_
    refine q_Zeq X (by omega) (tgt := 77) dX1_length_69 (by decide) (fun hB18 => ?_) (fun hB18 => ?_)
    ·
      refine lv_lload X.1 X.2.1 dX1_length_77 (lv_at hl 1 rfl) ?_
      refine lv_goto (tgt := 86) X.1 X.2.1 dX1_length_79 (by decide) ?_
      exact vx_ret (p_lret X hX (⟨⟨by simp only [hi, hj, Bool.and_self], by rw [ek, hg]; rfl, by rw [ek]; exact hr2⟩, by simp only [ek, eT, epn, hSS]; rw [lenv, hcc, if_pos (Or.inl hB18)]⟩) ⟨by decide, by decide⟩ dX1_length_86)
    ·
      refine lv_iload X.1 X.2.1 dX1_length_72 (lv_at hl 0 rfl) ?_
      refine q_Zeq X (by omega) (tgt := 82) dX1_length_74 (by decide) (fun hB19 => ?_) (fun hB19 => ?_)
      ·
        refine lv_lload X.1 X.2.1 dX1_length_82 (lv_at hl 1 rfl) ?_
        refine lv_lconst (v := lN 1) X.1 X.2.1 dX1_length_84 (by decide) ?_
        refine lv_ladd X.1 X.2.1 dX1_length_85 ?_
        refine w_l (lN_add _ _) ?_
        exact vx_ret (p_lret X hX (⟨⟨by simp only [hi, hj, Bool.and_self], by rw [ek, hg]; rfl, by rw [ek]; exact hr2⟩, by simp only [ek, eT, epn, hSS]; rw [lenv, hcc, if_neg (fun h8 => h8.elim hB18 hB17)]⟩) ⟨by decide, by decide⟩ dX1_length_86)
      ·
        exact absurd rfl hB19
  ·
    refine lv_iconst (v := nI 1) X.1 X.2.1 dX1_length_60 (by decide) ?_
    refine lv_goto (tgt := 65) X.1 X.2.1 dX1_length_61 (by decide) ?_
    refine lv_istore (lv' := [(8, .int (nI 1)), (6, .long (lN cc)), (5, .ref r12), (0, .ref o), (1, .int (nI k)), (2, .long (lN t)), (4, .int (nI pn))]) X.1 X.2.1 dX1_length_65 hl (by decide) rfl (fun ls hl => ?_)
    refine lv_iload X.1 X.2.1 dX1_length_67 (lv_at hl 6 rfl) ?_
    refine q_Zeq X (by omega) (tgt := 77) dX1_length_69 (by decide) (fun hB20 => ?_) (fun hB20 => ?_)
    ·
      refine lv_lload X.1 X.2.1 dX1_length_77 (lv_at hl 1 rfl) ?_
      refine lv_goto (tgt := 86) X.1 X.2.1 dX1_length_79 (by decide) ?_
      exact vx_ret (p_lret X hX (⟨⟨by simp only [hi, hj, Bool.and_self], by rw [ek, hg]; rfl, by rw [ek]; exact hr2⟩, by simp only [ek, eT, epn, hSS]; rw [lenv, hcc, if_pos (Or.inl hB20)]⟩) ⟨by decide, by decide⟩ dX1_length_86)
    ·
      refine lv_iload X.1 X.2.1 dX1_length_72 (lv_at hl 0 rfl) ?_
      refine q_Zeq X (by omega) (tgt := 82) dX1_length_74 (by decide) (fun hB21 => ?_) (fun hB21 => ?_)
      ·
        exact absurd hB21 (by decide)
      ·
        refine lv_lload X.1 X.2.1 dX1_length_77 (lv_at hl 1 rfl) ?_
        refine lv_goto (tgt := 86) X.1 X.2.1 dX1_length_79 (by decide) ?_
        exact vx_ret (p_lret X hX (⟨⟨by simp only [hi, hj, Bool.and_self], by rw [ek, hg]; rfl, by rw [ek]; exact hr2⟩, by simp only [ek, eT, epn, hSS]; rw [lenv, hcc, if_pos (Or.inr hB17)]⟩) ⟨by decide, by decide⟩ dX1_length_86)
set_option maxHeartbeats 4000000 in
set_option maxRecDepth 100000 in
theorem c_X1_tangent (l : Launch) (g : En) (o r : Nat) (A : Nat → Nat) (x1 y1 : Nat) (q : Nat → Rat) (i : Int32) (v0 : Int64) (cu j : Int32) (hl0 : l.stackTraces = false) (hO : OK x1 y1 q) : XM l yX1_tangent cX1_tangent 6 (some FieldType.long) { frames := 8, cells := 21, slots := 62, locals := 161 } g [.ref o, .int i, .long v0, .int cu, .int j] (fun H => RP g o r A x1 y1 q H) 21 62 (rK (inI i 4 && inI cu 3 && inI j 2) (!gab q (toN i)) (inL v0 0 (slen x1 y1 (toN i))) (.long (lN (prt (tng x1 y1 q (toN i) (toL v0) (toN cu)) (toN j))))) (xk (inI i 4 && inI cu 3 && inI j 2) (!gab q (toN i)) (inL v0 0 (slen x1 y1 (toN i)))) := by
  refine XM.of (by decide) (Nat.le_of_ble_eq_true rfl) (fun p e s m below meth c ls X hne hE hG hl => ?_)
  obtain ⟨hP, hF⟩ := hG
  have hl : lv_has ls 6 [(0, .ref o), (1, .int i), (2, .long v0), (4, .int cu), (5, .int j)] := hl
  have hX : hxt s.heap s.heap := hxt.rf
  have hP : PP g [ob o x1 y1 r, ar g r A] s.heap := hP
  refine lv_iload_n X.1 X.2.1 dX1_tangent_0 rfl (lv_at hl 1 rfl) ?_
  refine lv_iconst (v := nI 4) X.1 X.2.1 dX1_tangent_1 (by decide) ?_
  refine x_callS (As := [.int i, .int (nI 4)]) (rest := []) X hne hE (c_X1_checkIndex l g i 4 hl0 (by decide)) ⟨mw_175, mw_176, mw_38, mw_177⟩ sgX1_checkIndex ⟨rfl, rfl, ⟨by decide, by decide⟩, by decide, by decide⟩ (trivial) hX rfl hl.1 rfl (Nat.le_of_ble_eq_true rfl) dX1_tangent_2 (fun E h => xk_A (fun h9 => by simp only [h9, Bool.false_and, Bool.and_false, Bool.true_and]) h) ⟨by decide, by decide⟩ (fun v H1 hk2 hp => ?_)
  obtain ⟨rfl, hi⟩ := hp
  have hX := hX.tr hk2
  have hP := PP.ext hP hk2
  have hF := RF.ext hF hk2
  refine W.eq (g2 := F0 m 5 ls []) rfl ?_
  obtain ⟨k, hk, rfl⟩ := inI_of hi (by decide)
  have ek : toN (nI k) = k := toN_k (by omega)
  refine lv_iload X.1 X.2.1 dX1_tangent_5 (lv_at hl 3 rfl) ?_
  refine lv_iconst (v := nI 3) X.1 X.2.1 dX1_tangent_7 (by decide) ?_
  refine x_callS (As := [.int cu, .int (nI 3)]) (rest := []) X hne hE (c_X1_checkIndex l g cu 3 hl0 (by decide)) ⟨mw_175, mw_176, mw_38, mw_177⟩ sgX1_checkIndex ⟨rfl, rfl, ⟨by decide, by decide⟩, by decide, by decide⟩ (trivial) hX rfl hl.1 rfl (Nat.le_of_ble_eq_true rfl) dX1_tangent_8 (fun E h => xk_A (fun h9 => by simp only [h9, hi, Bool.false_and, Bool.and_false, Bool.true_and]) h) ⟨by decide, by decide⟩ (fun v H3 hk4 hp => ?_)
  obtain ⟨rfl, hcu⟩ := hp
  have hX := hX.tr hk4
  have hP := PP.ext hP hk4
  have hF := RF.ext hF hk4
  refine W.eq (g2 := F0 m 11 ls []) rfl ?_
  obtain ⟨cn, hcn, rfl⟩ := inI_of hcu (by decide)
  have ecn : toN (nI cn) = cn := toN_k (by omega)
  refine lv_iload X.1 X.2.1 dX1_tangent_11 (lv_at hl 4 rfl) ?_
  refine lv_iconst (v := nI 2) X.1 X.2.1 dX1_tangent_13 (by decide) ?_
  refine x_callS (As := [.int j, .int (nI 2)]) (rest := []) X hne hE (c_X1_checkIndex l g j 2 hl0 (by decide)) ⟨mw_175, mw_176, mw_38, mw_177⟩ sgX1_checkIndex ⟨rfl, rfl, ⟨by decide, by decide⟩, by decide, by decide⟩ (trivial) hX rfl hl.1 rfl (Nat.le_of_ble_eq_true rfl) dX1_tangent_14 (fun E h => xk_A (fun h9 => by simp only [h9, hi, hcu, Bool.false_and, Bool.and_false, Bool.true_and]) h) ⟨by decide, by decide⟩ (fun v H5 hk6 hp => ?_)
  obtain ⟨rfl, hj⟩ := hp
  have hX := hX.tr hk6
  have hP := PP.ext hP hk6
  have hF := RF.ext hF hk6
  refine W.eq (g2 := F0 m 17 ls []) rfl ?_
  obtain ⟨pn, hpn, rfl⟩ := inI_of hj (by decide)
  have epn : toN (nI pn) = pn := toN_k (by omega)
  refine lv_aload_n X.1 X.2.1 dX1_tangent_17 rfl (lv_at hl 0 rfl) ?_
  refine lv_iload_n X.1 X.2.1 dX1_tangent_18 rfl (lv_at hl 1 rfl) ?_
  refine lv_lload_n X.1 X.2.1 dX1_tangent_19 rfl (lv_at hl 2 rfl) ?_
  have hsl := slen_le hO k
  refine x_callV (C := RX1) (b := o) (As := [.int (nI k), .long v0]) (rest := []) X hne hE (c_X1_checkRafter l g o r A x1 y1 q k v0 hl0 hO hk) ⟨mw_309, mw_311, mw_11, mw_38, mw_312⟩ sgX1_checkRafter ⟨rfl, rfl, ⟨by decide, by decide⟩, by decide, by decide⟩ (hP.at 0 rfl) rfl rfl (RP.of hP [0, 1] rfl hF) hX rfl hl.1 rfl (Nat.le_of_ble_eq_true rfl) dX1_tangent_20 (fun E h => xk_SG (by simp only [hi, hcu, hj, Bool.and_self]) (by rw [ek]) (by rw [ek]) h) ⟨by decide, by decide⟩ (fun v H7 hk8 hp => ?_)
  obtain ⟨rfl, hr⟩ := hp
  have hX := hX.tr hk8
  have hP := PP.ext hP hk8
  have hF := RF.ext hF hk8
  refine W.eq (g2 := F0 m 23 ls []) rfl ?_
  obtain ⟨hr1, hr2⟩ := andL hr
  have hg := notL hr1
  obtain ⟨t, -, ht, rfl⟩ := inL_of hr2 (by omega)
  have eT : toL (lN t) = t := toL_k (by omega)
  refine lv_aload_n X.1 X.2.1 dX1_tangent_23 rfl (lv_at hl 0 rfl) ?_
  refine lv_iload_n X.1 X.2.1 dX1_tangent_24 rfl (lv_at hl 1 rfl) ?_
  refine lv_lload_n X.1 X.2.1 dX1_tangent_25 rfl (lv_at hl 2 rfl) ?_
  refine lv_iload X.1 X.2.1 dX1_tangent_26 (lv_at hl 3 rfl) ?_
  refine p_callV (C := RX1) (b := o) (As := [.int (nI k), .long (lN t), .int (nI cn)]) (rest := []) X (c_X1_cutTangent l g o r A x1 y1 q k t cn hO hk ht hg hcn) ⟨mw_386, mw_388, mw_17, mw_38, mw_389⟩ sgX1_cutTangent ⟨rfl, rfl, ⟨by decide, by decide⟩, by decide, by decide⟩ (hP.at 0 rfl) rfl rfl (RP.of hP [0, 1] rfl hF) hX.1 rfl hl.1 rfl (Nat.le_of_ble_eq_true rfl) dX1_tangent_28 (fun v H9 hk10 hp => ?_)
  obtain ⟨r11, rfl, hr11⟩ := hp
  have hX := hX.tr hk10
  have hP := PP.ext hP hk10
  have hF := RF.ext hF hk10
  have hP := PP.cons hr11 hP
  refine W.eq (g2 := F0 m 31 ls [.ref r11]) rfl ?_
  refine lv_iload X.1 X.2.1 dX1_tangent_31 (lv_at hl 4 rfl) ?_
  refine p_callV (C := RX0) (b := r11) (As := [.int (nI pn)]) (rest := []) X (c_X0_part l g _ pn _ hpn) ⟨mw_271, mw_272, mw_273, mw_39, mw_274⟩ sgX0_part ⟨rfl, rfl, ⟨by decide, by decide⟩, by decide, by decide⟩ (hP.at 0 rfl) rfl rfl (hP.sub [0] rfl) hX.1 rfl hl.1 rfl (Nat.le_of_ble_eq_true rfl) dX1_tangent_33 (fun v H12 hk13 hp => ?_)
  obtain rfl := hp
  have hX := hX.tr hk13
  have hP := PP.ext hP hk13
  have hF := RF.ext hF hk13
  refine W.eq (g2 := F0 m 36 ls [.long (lN (prt (tng x1 y1 q k t cn) pn))]) rfl ?_
  exact vx_ret (p_lret X hX (⟨⟨by simp only [hi, hcu, hj, Bool.and_self], by rw [ek, hg]; rfl, by rw [ek]; exact hr2⟩, by simp only [ek, eT, ecn, epn]⟩) ⟨by decide, by decide⟩ dX1_tangent_36)
set_option maxHeartbeats 4000000 in
set_option maxRecDepth 100000 in
theorem c_X1_peak (l : Launch) (g : En) (o r : Nat) (A : Nat → Nat) (x1 y1 : Nat) (q : Nat → Rat) (j : Int32) (hl0 : l.stackTraces = false) (hO : OK x1 y1 q) : XM l yX1_peak cX1_peak 2 (some FieldType.long) { frames := 8, cells := 7, slots := 18, locals := 116 } g [.ref o, .int j] (fun H => RP g o r A x1 y1 q H) 7 18 (rK (inI j 2) (true) (true) (.long (lN (prt (pk x1 y1 q) (toN j))))) (xk (inI j 2) (true) (true)) := by
  refine XM.of (by decide) (Nat.le_of_ble_eq_true rfl) (fun p e s m below meth c ls X hne hE hG hl => ?_)
  obtain ⟨hP, hF⟩ := hG
  have hl : lv_has ls 2 [(0, .ref o), (1, .int j)] := hl
  have hX : hxt s.heap s.heap := hxt.rf
  have hP : PP g [ob o x1 y1 r, ar g r A] s.heap := hP
  refine lv_iload_n X.1 X.2.1 dX1_peak_0 rfl (lv_at hl 1 rfl) ?_
  refine lv_iconst (v := nI 2) X.1 X.2.1 dX1_peak_1 (by decide) ?_
  refine x_callS (As := [.int j, .int (nI 2)]) (rest := []) X hne hE (c_X1_checkIndex l g j 2 hl0 (by decide)) ⟨mw_175, mw_176, mw_38, mw_177⟩ sgX1_checkIndex ⟨rfl, rfl, ⟨by decide, by decide⟩, by decide, by decide⟩ (trivial) hX rfl hl.1 rfl (Nat.le_of_ble_eq_true rfl) dX1_peak_2 (fun E h => xk_A (fun h9 => by simp only [h9, Bool.false_and, Bool.and_false, Bool.true_and]) h) ⟨by decide, by decide⟩ (fun v H1 hk2 hp => ?_)
  obtain ⟨rfl, hj⟩ := hp
  have hX := hX.tr hk2
  have hP := PP.ext hP hk2
  have hF := RF.ext hF hk2
  refine W.eq (g2 := F0 m 5 ls []) rfl ?_
  obtain ⟨pn, hpn, rfl⟩ := inI_of hj (by decide)
  have epn : toN (nI pn) = pn := toN_k (by omega)
  refine lv_aload_n X.1 X.2.1 dX1_peak_5 rfl (lv_at hl 0 rfl) ?_
  refine p_callV (C := RX1) (b := o) (As := []) (rest := []) X (c_X1_peakHeight l g o r A x1 y1 q hO) ⟨mw_411, mw_413, mw_19, mw_38, mw_414⟩ sgX1_peakHeight ⟨rfl, rfl, ⟨by decide, by decide⟩, by decide, by decide⟩ (hP.at 0 rfl) rfl rfl (RP.of hP [0, 1] rfl hF) hX.1 rfl hl.1 rfl (Nat.le_of_ble_eq_true rfl) dX1_peak_6 (fun v H3 hk4 hp => ?_)
  obtain ⟨r5, rfl, hr5⟩ := hp
  have hX := hX.tr hk4
  have hP := PP.ext hP hk4
  have hF := RF.ext hF hk4
  have hP := PP.cons hr5 hP
  refine W.eq (g2 := F0 m 9 ls [.ref r5]) rfl ?_
  refine lv_iload_n X.1 X.2.1 dX1_peak_9 rfl (lv_at hl 1 rfl) ?_
  refine p_callV (C := RX0) (b := r5) (As := [.int (nI pn)]) (rest := []) X (c_X0_part l g _ pn _ hpn) ⟨mw_271, mw_272, mw_273, mw_39, mw_274⟩ sgX0_part ⟨rfl, rfl, ⟨by decide, by decide⟩, by decide, by decide⟩ (hP.at 0 rfl) rfl rfl (hP.sub [0] rfl) hX.1 rfl hl.1 rfl (Nat.le_of_ble_eq_true rfl) dX1_peak_10 (fun v H6 hk7 hp => ?_)
  obtain rfl := hp
  have hX := hX.tr hk7
  have hP := PP.ext hP hk7
  have hF := RF.ext hF hk7
  refine W.eq (g2 := F0 m 13 ls [.long (lN (prt (pk x1 y1 q) pn))]) rfl ?_
  exact vx_ret (p_lret X hX (⟨⟨hj, rfl, rfl⟩, by simp only [epn]⟩) ⟨by decide, by decide⟩ dX1_peak_13)
set_option maxHeartbeats 4000000 in
set_option maxRecDepth 100000 in
theorem c_X1_ridge (l : Launch) (g : En) (o r : Nat) (A : Nat → Nat) (x1 y1 : Nat) (q : Nat → Rat) (i j : Int32) (hl0 : l.stackTraces = false) (hO : OK x1 y1 q) : XM l yX1_ridge cX1_ridge 3 (some FieldType.long) { frames := 8, cells := 10, slots := 28, locals := 146 } g [.ref o, .int i, .int j] (fun H => RP g o r A x1 y1 q H) 10 28 (rK (inI i 4 && inI j 2) (true) (true) (.long (lN (prt (rdg x1 y1 q (toN i)) (toN j))))) (xk (inI i 4 && inI j 2) (true) (true)) := by
  refine XM.of (by decide) (Nat.le_of_ble_eq_true rfl) (fun p e s m below meth c ls X hne hE hG hl => ?_)
  obtain ⟨hP, hF⟩ := hG
  have hl : lv_has ls 3 [(0, .ref o), (1, .int i), (2, .int j)] := hl
  have hX : hxt s.heap s.heap := hxt.rf
  have hP : PP g [ob o x1 y1 r, ar g r A] s.heap := hP
  refine lv_iload_n X.1 X.2.1 dX1_ridge_0 rfl (lv_at hl 1 rfl) ?_
  refine lv_iconst (v := nI 4) X.1 X.2.1 dX1_ridge_1 (by decide) ?_
  refine x_callS (As := [.int i, .int (nI 4)]) (rest := []) X hne hE (c_X1_checkIndex l g i 4 hl0 (by decide)) ⟨mw_175, mw_176, mw_38, mw_177⟩ sgX1_checkIndex ⟨rfl, rfl, ⟨by decide, by decide⟩, by decide, by decide⟩ (trivial) hX rfl hl.1 rfl (Nat.le_of_ble_eq_true rfl) dX1_ridge_2 (fun E h => xk_A (fun h9 => by simp only [h9, Bool.false_and, Bool.and_false, Bool.true_and]) h) ⟨by decide, by decide⟩ (fun v H1 hk2 hp => ?_)
  obtain ⟨rfl, hi⟩ := hp
  have hX := hX.tr hk2
  have hP := PP.ext hP hk2
  have hF := RF.ext hF hk2
  refine W.eq (g2 := F0 m 5 ls []) rfl ?_
  obtain ⟨k, hk, rfl⟩ := inI_of hi (by decide)
  have ek : toN (nI k) = k := toN_k (by omega)
  refine lv_iload_n X.1 X.2.1 dX1_ridge_5 rfl (lv_at hl 2 rfl) ?_
  refine lv_iconst (v := nI 2) X.1 X.2.1 dX1_ridge_6 (by decide) ?_
  refine x_callS (As := [.int j, .int (nI 2)]) (rest := []) X hne hE (c_X1_checkIndex l g j 2 hl0 (by decide)) ⟨mw_175, mw_176, mw_38, mw_177⟩ sgX1_checkIndex ⟨rfl, rfl, ⟨by decide, by decide⟩, by decide, by decide⟩ (trivial) hX rfl hl.1 rfl (Nat.le_of_ble_eq_true rfl) dX1_ridge_7 (fun E h => xk_A (fun h9 => by simp only [h9, hi, Bool.false_and, Bool.and_false, Bool.true_and]) h) ⟨by decide, by decide⟩ (fun v H3 hk4 hp => ?_)
  obtain ⟨rfl, hj⟩ := hp
  have hX := hX.tr hk4
  have hP := PP.ext hP hk4
  have hF := RF.ext hF hk4
  refine W.eq (g2 := F0 m 10 ls []) rfl ?_
  obtain ⟨pn, hpn, rfl⟩ := inI_of hj (by decide)
  have epn : toN (nI pn) = pn := toN_k (by omega)
  refine lv_aload_n X.1 X.2.1 dX1_ridge_10 rfl (lv_at hl 0 rfl) ?_
  refine lv_iload_n X.1 X.2.1 dX1_ridge_11 rfl (lv_at hl 1 rfl) ?_
  refine p_callV (C := RX1) (b := o) (As := [.int (nI k)]) (rest := []) X (c_X1_ridgeBound l g o r A x1 y1 q k hO hk) ⟨mw_429, mw_431, mw_20, mw_38, mw_432⟩ sgX1_ridgeBound ⟨rfl, rfl, ⟨by decide, by decide⟩, by decide, by decide⟩ (hP.at 0 rfl) rfl rfl (RP.of hP [0, 1] rfl hF) hX.1 rfl hl.1 rfl (Nat.le_of_ble_eq_true rfl) dX1_ridge_12 (fun v H5 hk6 hp => ?_)
  obtain ⟨r7, rfl, hr7⟩ := hp
  have hX := hX.tr hk6
  have hP := PP.ext hP hk6
  have hF := RF.ext hF hk6
  have hP := PP.cons hr7 hP
  refine W.eq (g2 := F0 m 15 ls [.ref r7]) rfl ?_
  refine lv_iload_n X.1 X.2.1 dX1_ridge_15 rfl (lv_at hl 2 rfl) ?_
  refine p_callV (C := RX0) (b := r7) (As := [.int (nI pn)]) (rest := []) X (c_X0_part l g _ pn _ hpn) ⟨mw_271, mw_272, mw_273, mw_39, mw_274⟩ sgX0_part ⟨rfl, rfl, ⟨by decide, by decide⟩, by decide, by decide⟩ (hP.at 0 rfl) rfl rfl (hP.sub [0] rfl) hX.1 rfl hl.1 rfl (Nat.le_of_ble_eq_true rfl) dX1_ridge_16 (fun v H8 hk9 hp => ?_)
  obtain rfl := hp
  have hX := hX.tr hk9
  have hP := PP.ext hP hk9
  have hF := RF.ext hF hk9
  refine W.eq (g2 := F0 m 19 ls [.long (lN (prt (rdg x1 y1 q k) pn))]) rfl ?_
  exact vx_ret (p_lret X hX (⟨⟨by simp only [hi, hj, Bool.and_self], rfl, rfl⟩, by simp only [ek, epn]⟩) ⟨by decide, by decide⟩ dX1_ridge_19)
set_option maxHeartbeats 4000000 in
set_option maxRecDepth 100000 in
theorem c_X1_area (l : Launch) (g : En) (o r : Nat) (A : Nat → Nat) (x1 y1 : Nat) (q : Nat → Rat) (i j : Int32) (hl0 : l.stackTraces = false) (hO : OK x1 y1 q) : XM l yX1_area cX1_area 3 (some FieldType.long) { frames := 8, cells := 14, slots := 40, locals := 128 } g [.ref o, .int i, .int j] (fun H => RP g o r A x1 y1 q H) 14 40 (rK (inI i 4 && inI j 2) (!gab q (toN i)) (true) (.long (lN (prt (are x1 y1 q (toN i)) (toN j))))) (xk (inI i 4 && inI j 2) (!gab q (toN i)) (true)) := by
  refine XM.of (by decide) (Nat.le_of_ble_eq_true rfl) (fun p e s m below meth c ls X hne hE hG hl => ?_)
  obtain ⟨hP, hF⟩ := hG
  have hl : lv_has ls 3 [(0, .ref o), (1, .int i), (2, .int j)] := hl
  have hX : hxt s.heap s.heap := hxt.rf
  have hP : PP g [ob o x1 y1 r, ar g r A] s.heap := hP
  refine lv_iload_n X.1 X.2.1 dX1_area_0 rfl (lv_at hl 1 rfl) ?_
  refine lv_iconst (v := nI 4) X.1 X.2.1 dX1_area_1 (by decide) ?_
  refine x_callS (As := [.int i, .int (nI 4)]) (rest := []) X hne hE (c_X1_checkIndex l g i 4 hl0 (by decide)) ⟨mw_175, mw_176, mw_38, mw_177⟩ sgX1_checkIndex ⟨rfl, rfl, ⟨by decide, by decide⟩, by decide, by decide⟩ (trivial) hX rfl hl.1 rfl (Nat.le_of_ble_eq_true rfl) dX1_area_2 (fun E h => xk_A (fun h9 => by simp only [h9, Bool.false_and, Bool.and_false, Bool.true_and]) h) ⟨by decide, by decide⟩ (fun v H1 hk2 hp => ?_)
  obtain ⟨rfl, hi⟩ := hp
  have hX := hX.tr hk2
  have hP := PP.ext hP hk2
  have hF := RF.ext hF hk2
  refine W.eq (g2 := F0 m 5 ls []) rfl ?_
  obtain ⟨k, hk, rfl⟩ := inI_of hi (by decide)
  have ek : toN (nI k) = k := toN_k (by omega)
  refine lv_iload_n X.1 X.2.1 dX1_area_5 rfl (lv_at hl 2 rfl) ?_
  refine lv_iconst (v := nI 2) X.1 X.2.1 dX1_area_6 (by decide) ?_
  refine x_callS (As := [.int j, .int (nI 2)]) (rest := []) X hne hE (c_X1_checkIndex l g j 2 hl0 (by decide)) ⟨mw_175, mw_176, mw_38, mw_177⟩ sgX1_checkIndex ⟨rfl, rfl, ⟨by decide, by decide⟩, by decide, by decide⟩ (trivial) hX rfl hl.1 rfl (Nat.le_of_ble_eq_true rfl) dX1_area_7 (fun E h => xk_A (fun h9 => by simp only [h9, hi, Bool.false_and, Bool.and_false, Bool.true_and]) h) ⟨by decide, by decide⟩ (fun v H3 hk4 hp => ?_)
  obtain ⟨rfl, hj⟩ := hp
  have hX := hX.tr hk4
  have hP := PP.ext hP hk4
  have hF := RF.ext hF hk4
  refine W.eq (g2 := F0 m 10 ls []) rfl ?_
  obtain ⟨pn, hpn, rfl⟩ := inI_of hj (by decide)
  have epn : toN (nI pn) = pn := toN_k (by omega)
  refine lv_aload_n X.1 X.2.1 dX1_area_10 rfl (lv_at hl 0 rfl) ?_
  refine lv_iload_n X.1 X.2.1 dX1_area_11 rfl (lv_at hl 1 rfl) ?_
  refine x_callV (C := RX1) (b := o) (As := [.int (nI k)]) (rest := []) X hne hE (c_X1_checkNoGable l g o r A x1 y1 q k hl0 hk (hO.2.2.1 _ hk)) ⟨mw_289, mw_291, mw_9, mw_38, mw_292⟩ sgX1_checkNoGable ⟨rfl, rfl, ⟨by decide, by decide⟩, by decide, by decide⟩ (hP.at 0 rfl) rfl rfl (RP.of hP [0, 1] rfl hF) hX rfl hl.1 rfl (Nat.le_of_ble_eq_true rfl) dX1_area_12 (fun E h => xk_S (by simp only [hi, hj, Bool.and_self]) (fun h9 => by rw [ek]; exact h9) h) ⟨by decide, by decide⟩ (fun v H5 hk6 hp => ?_)
  obtain ⟨rfl, hr1⟩ := hp
  have hX := hX.tr hk6
  have hP := PP.ext hP hk6
  have hF := RF.ext hF hk6
  refine W.eq (g2 := F0 m 15 ls []) rfl ?_
  have hg := notL hr1
  refine lv_aload_n X.1 X.2.1 dX1_area_15 rfl (lv_at hl 0 rfl) ?_
  refine lv_iload_n X.1 X.2.1 dX1_area_16 rfl (lv_at hl 1 rfl) ?_
  refine p_callV (C := RX1) (b := o) (As := [.int (nI k)]) (rest := []) X (c_X1_twiceArea l g o r A x1 y1 q k hO hk) ⟨mw_444, mw_446, mw_21, mw_38, mw_447⟩ sgX1_twiceArea ⟨rfl, rfl, ⟨by decide, by decide⟩, by decide, by decide⟩ (hP.at 0 rfl) rfl rfl (RP.of hP [0, 1] rfl hF) hX.1 rfl hl.1 rfl (Nat.le_of_ble_eq_true rfl) dX1_area_17 (fun v H7 hk8 hp => ?_)
  obtain ⟨r9, rfl, hr9⟩ := hp
  have hX := hX.tr hk8
  have hP := PP.ext hP hk8
  have hF := RF.ext hF hk8
  have hP := PP.cons hr9 hP
  refine W.eq (g2 := F0 m 20 ls [.ref r9]) rfl ?_
  refine lv_iload_n X.1 X.2.1 dX1_area_20 rfl (lv_at hl 2 rfl) ?_
  refine p_callV (C := RX0) (b := r9) (As := [.int (nI pn)]) (rest := []) X (c_X0_part l g _ pn _ hpn) ⟨mw_271, mw_272, mw_273, mw_39, mw_274⟩ sgX0_part ⟨rfl, rfl, ⟨by decide, by decide⟩, by decide, by decide⟩ (hP.at 0 rfl) rfl rfl (hP.sub [0] rfl) hX.1 rfl hl.1 rfl (Nat.le_of_ble_eq_true rfl) dX1_area_21 (fun v H10 hk11 hp => ?_)
  obtain rfl := hp
  have hX := hX.tr hk11
  have hP := PP.ext hP hk11
  have hF := RF.ext hF hk11
  refine W.eq (g2 := F0 m 24 ls [.long (lN (prt (are x1 y1 q k) pn))]) rfl ?_
  exact vx_ret (p_lret X hX (⟨⟨by simp only [hi, hj, Bool.and_self], by rw [ek, hg]; rfl, rfl⟩, by simp only [ek, epn]⟩) ⟨by decide, by decide⟩ dX1_area_24)
set_option maxHeartbeats 4000000 in
set_option maxRecDepth 100000 in
theorem c_X1_mouth (l : Launch) (g : En) (o r : Nat) (A : Nat → Nat) (x1 y1 : Nat) (q : Nat → Rat) (i : Int32) (v0 : Int64) (j : Int32) (hl0 : l.stackTraces = false) (hO : OK x1 y1 q) : XM l yX1_mouth cX1_mouth 5 (some FieldType.long) { frames := 8, cells := 5, slots := 26, locals := 116 } g [.ref o, .int i, .long v0, .int j] (fun H => RP g o r A x1 y1 q H) 5 26 (rK (inI i 4 && inI j 2) (!gab q (toN i)) (inL v0 0 1000) (.long (lN (prt (q (toN i) * ((toL v0 : Nat) : Rat)) (toN j))))) (xk (inI i 4 && inI j 2) (!gab q (toN i)) (inL v0 0 1000)) := by
  refine XM.of (by decide) (Nat.le_of_ble_eq_true rfl) (fun p e s m below meth c ls X hne hE hG hl => ?_)
  obtain ⟨hP, hF⟩ := hG
  have hl : lv_has ls 5 [(0, .ref o), (1, .int i), (2, .long v0), (4, .int j)] := hl
  have hX : hxt s.heap s.heap := hxt.rf
  have hP : PP g [ob o x1 y1 r, ar g r A] s.heap := hP
  refine lv_iload_n X.1 X.2.1 dX1_mouth_0 rfl (lv_at hl 1 rfl) ?_
  refine lv_iconst (v := nI 4) X.1 X.2.1 dX1_mouth_1 (by decide) ?_
  refine x_callS (As := [.int i, .int (nI 4)]) (rest := []) X hne hE (c_X1_checkIndex l g i 4 hl0 (by decide)) ⟨mw_175, mw_176, mw_38, mw_177⟩ sgX1_checkIndex ⟨rfl, rfl, ⟨by decide, by decide⟩, by decide, by decide⟩ (trivial) hX rfl hl.1 rfl (Nat.le_of_ble_eq_true rfl) dX1_mouth_2 (fun E h => xk_A (fun h9 => by simp only [h9, Bool.false_and, Bool.and_false, Bool.true_and]) h) ⟨by decide, by decide⟩ (fun v H1 hk2 hp => ?_)
  obtain ⟨rfl, hi⟩ := hp
  have hX := hX.tr hk2
  have hP := PP.ext hP hk2
  have hF := RF.ext hF hk2
  refine W.eq (g2 := F0 m 5 ls []) rfl ?_
  obtain ⟨k, hk, rfl⟩ := inI_of hi (by decide)
  have ek : toN (nI k) = k := toN_k (by omega)
  refine lv_iload X.1 X.2.1 dX1_mouth_5 (lv_at hl 3 rfl) ?_
  refine lv_iconst (v := nI 2) X.1 X.2.1 dX1_mouth_7 (by decide) ?_
  refine x_callS (As := [.int j, .int (nI 2)]) (rest := []) X hne hE (c_X1_checkIndex l g j 2 hl0 (by decide)) ⟨mw_175, mw_176, mw_38, mw_177⟩ sgX1_checkIndex ⟨rfl, rfl, ⟨by decide, by decide⟩, by decide, by decide⟩ (trivial) hX rfl hl.1 rfl (Nat.le_of_ble_eq_true rfl) dX1_mouth_8 (fun E h => xk_A (fun h9 => by simp only [h9, hi, Bool.false_and, Bool.and_false, Bool.true_and]) h) ⟨by decide, by decide⟩ (fun v H3 hk4 hp => ?_)
  obtain ⟨rfl, hj⟩ := hp
  have hX := hX.tr hk4
  have hP := PP.ext hP hk4
  have hF := RF.ext hF hk4
  refine W.eq (g2 := F0 m 11 ls []) rfl ?_
  obtain ⟨pn, hpn, rfl⟩ := inI_of hj (by decide)
  have epn : toN (nI pn) = pn := toN_k (by omega)
  refine lv_aload_n X.1 X.2.1 dX1_mouth_11 rfl (lv_at hl 0 rfl) ?_
  refine lv_iload_n X.1 X.2.1 dX1_mouth_12 rfl (lv_at hl 1 rfl) ?_
  refine x_callV (C := RX1) (b := o) (As := [.int (nI k)]) (rest := []) X hne hE (c_X1_checkNoGable l g o r A x1 y1 q k hl0 hk (hO.2.2.1 _ hk)) ⟨mw_289, mw_291, mw_9, mw_38, mw_292⟩ sgX1_checkNoGable ⟨rfl, rfl, ⟨by decide, by decide⟩, by decide, by decide⟩ (hP.at 0 rfl) rfl rfl (RP.of hP [0, 1] rfl hF) hX rfl hl.1 rfl (Nat.le_of_ble_eq_true rfl) dX1_mouth_13 (fun E h => xk_S (by simp only [hi, hj, Bool.and_self]) (fun h9 => by rw [ek]; exact h9) h) ⟨by decide, by decide⟩ (fun v H5 hk6 hp => ?_)
  obtain ⟨rfl, hr1⟩ := hp
  have hX := hX.tr hk6
  have hP := PP.ext hP hk6
  have hF := RF.ext hF hk6
  refine W.eq (g2 := F0 m 16 ls []) rfl ?_
  have hg := notL hr1
  refine lv_lload_n X.1 X.2.1 dX1_mouth_16 rfl (lv_at hl 2 rfl) ?_
  refine lv_lconst (v := lN 0) X.1 X.2.1 dX1_mouth_17 (by decide) ?_
  refine lv_ldc2 (v := 1000) X.1 X.2.1 X.2.2.2.1 (X.2.2.2.2.1 _ (List.mem_cons_of_mem _ mw_56)) dX1_mouth_18 ?_
  refine w_l (v' := lN 1000) (by decide) ?_
  refine x_callS (As := [.long v0, .long (lN 0), .long (lN 1000)]) (rest := []) X hne hE (c_X1_checkNumber l g v0 0 1000 hl0 (by decide) (by decide)) ⟨mw_96, mw_97, mw_38, mw_98⟩ sgX1_checkNumber ⟨rfl, rfl, ⟨by decide, by decide⟩, by decide, by decide⟩ (trivial) hX rfl hl.1 rfl (Nat.le_of_ble_eq_true rfl) dX1_mouth_21 (fun E h => xk_G (by simp only [hi, hj, Bool.and_self]) (by rw [ek, hg]; rfl) (fun h9 => h9) h) ⟨by decide, by decide⟩ (fun v H7 hk8 hp => ?_)
  obtain ⟨rfl, hr2⟩ := hp
  have hX := hX.tr hk8
  have hP := PP.ext hP hk8
  have hF := RF.ext hF hk8
  refine W.eq (g2 := F0 m 24 ls []) rfl ?_
  obtain ⟨t, ht0, ht, rfl⟩ := inL_of hr2 (by decide)
  have eT : toL (lN t) = t := toL_k (by omega)
  refine lv_aload_n X.1 X.2.1 dX1_mouth_24 rfl (lv_at hl 0 rfl) ?_
  refine p_get (T := TX1) X uX1 (hP.at 0 rfl) rfl 2 (by decide) mw_79 rfl rfl dX1_mouth_25 ?_
  refine lv_iload_n X.1 X.2.1 dX1_mouth_28 rfl (lv_at hl 1 rfl) ?_
  refine p_aald X (hP.at 1 rfl) hk (by decide) (r := A k) rfl dX1_mouth_29 ?_
  have hP := PP.cons (hF k hk) hP
  refine lv_lload_n X.1 X.2.1 dX1_mouth_30 rfl (lv_at hl 2 rfl) ?_
  refine p_callV (C := RX0) (b := A k) (As := [.long (lN t)]) (rest := []) X (b_timesn l g _ (hO.2.2.1 k hk) ht (by decide) (by decide)) ⟨mw_342, mw_343, mw_344, mw_39, mw_345⟩ sgX0_times_ ⟨rfl, rfl, ⟨by decide, by decide⟩, by decide, by decide⟩ (hP.at 0 rfl) rfl rfl (hP.sub [0] rfl) hX.1 rfl hl.1 rfl (Nat.le_of_ble_eq_true rfl) dX1_mouth_31 (fun v H9 hk10 hp => ?_)
  obtain ⟨r11, rfl, hr11⟩ := hp
  have hX := hX.tr hk10
  have hP := PP.ext hP hk10
  have hF := RF.ext hF hk10
  have hP := PP.cons hr11 hP
  refine W.eq (g2 := F0 m 34 ls [.ref r11]) rfl ?_
  refine lv_iload X.1 X.2.1 dX1_mouth_34 (lv_at hl 3 rfl) ?_
  refine p_callV (C := RX0) (b := r11) (As := [.int (nI pn)]) (rest := []) X (c_X0_part l g _ pn _ hpn) ⟨mw_271, mw_272, mw_273, mw_39, mw_274⟩ sgX0_part ⟨rfl, rfl, ⟨by decide, by decide⟩, by decide, by decide⟩ (hP.at 0 rfl) rfl rfl (hP.sub [0] rfl) hX.1 rfl hl.1 rfl (Nat.le_of_ble_eq_true rfl) dX1_mouth_36 (fun v H12 hk13 hp => ?_)
  obtain rfl := hp
  have hX := hX.tr hk13
  have hP := PP.ext hP hk13
  have hF := RF.ext hF hk13
  refine W.eq (g2 := F0 m 39 ls [.long (lN (prt (q k * ((t : Nat) : Rat)) pn))]) rfl ?_
  exact vx_ret (p_lret X hX (⟨⟨by simp only [hi, hj, Bool.and_self], by rw [ek, hg]; rfl, hr2⟩, by simp only [ek, eT, epn]⟩) ⟨by decide, by decide⟩ dX1_mouth_39)
set_option maxHeartbeats 4000000 in
set_option maxRecDepth 100000 in
theorem c_X1_rafter (l : Launch) (g : En) (o r : Nat) (A : Nat → Nat) (x1 y1 : Nat) (q : Nat → Rat) (i : Int32) (v0 : Int64) (hl0 : l.stackTraces = false) (hO : OK x1 y1 q) : XM l yX1_rafter cX1_rafter 4 (some FieldType.int) { frames := 8, cells := 3, slots := 18, locals := 116 } g [.ref o, .int i, .long v0] (fun H => RP g o r A x1 y1 q H) 3 18 (rK (inI i 4) (!gab q (toN i)) (inL v0 1 10000) (.int (nI (slen x1 y1 (toN i) / toL v0 + 1)))) (xk (inI i 4) (!gab q (toN i)) (inL v0 1 10000)) := by
  refine XM.of (by decide) (Nat.le_of_ble_eq_true rfl) (fun p e s m below meth c ls X hne hE hG hl => ?_)
  obtain ⟨hP, hF⟩ := hG
  have hl : lv_has ls 4 [(0, .ref o), (1, .int i), (2, .long v0)] := hl
  have hX : hxt s.heap s.heap := hxt.rf
  have hP : PP g [ob o x1 y1 r, ar g r A] s.heap := hP
  refine lv_iload_n X.1 X.2.1 dX1_rafter_0 rfl (lv_at hl 1 rfl) ?_
  refine lv_iconst (v := nI 4) X.1 X.2.1 dX1_rafter_1 (by decide) ?_
  refine x_callS (As := [.int i, .int (nI 4)]) (rest := []) X hne hE (c_X1_checkIndex l g i 4 hl0 (by decide)) ⟨mw_175, mw_176, mw_38, mw_177⟩ sgX1_checkIndex ⟨rfl, rfl, ⟨by decide, by decide⟩, by decide, by decide⟩ (trivial) hX rfl hl.1 rfl (Nat.le_of_ble_eq_true rfl) dX1_rafter_2 (fun E h => xk_A (fun h9 => by simp only [h9, Bool.false_and, Bool.and_false, Bool.true_and]) h) ⟨by decide, by decide⟩ (fun v H1 hk2 hp => ?_)
  obtain ⟨rfl, hi⟩ := hp
  have hX := hX.tr hk2
  have hP := PP.ext hP hk2
  have hF := RF.ext hF hk2
  refine W.eq (g2 := F0 m 5 ls []) rfl ?_
  obtain ⟨k, hk, rfl⟩ := inI_of hi (by decide)
  have ek : toN (nI k) = k := toN_k (by omega)
  refine lv_aload_n X.1 X.2.1 dX1_rafter_5 rfl (lv_at hl 0 rfl) ?_
  refine lv_iload_n X.1 X.2.1 dX1_rafter_6 rfl (lv_at hl 1 rfl) ?_
  refine x_callV (C := RX1) (b := o) (As := [.int (nI k)]) (rest := []) X hne hE (c_X1_checkNoGable l g o r A x1 y1 q k hl0 hk (hO.2.2.1 _ hk)) ⟨mw_289, mw_291, mw_9, mw_38, mw_292⟩ sgX1_checkNoGable ⟨rfl, rfl, ⟨by decide, by decide⟩, by decide, by decide⟩ (hP.at 0 rfl) rfl rfl (RP.of hP [0, 1] rfl hF) hX rfl hl.1 rfl (Nat.le_of_ble_eq_true rfl) dX1_rafter_7 (fun E h => xk_S (by simp only [hi, Bool.and_self]) (fun h9 => by rw [ek]; exact h9) h) ⟨by decide, by decide⟩ (fun v H3 hk4 hp => ?_)
  obtain ⟨rfl, hr1⟩ := hp
  have hX := hX.tr hk4
  have hP := PP.ext hP hk4
  have hF := RF.ext hF hk4
  refine W.eq (g2 := F0 m 10 ls []) rfl ?_
  have hg := notL hr1
  refine lv_lload_n X.1 X.2.1 dX1_rafter_10 rfl (lv_at hl 2 rfl) ?_
  refine lv_lconst (v := lN 1) X.1 X.2.1 dX1_rafter_11 (by decide) ?_
  refine lv_ldc2 (v := 10000) X.1 X.2.1 X.2.2.2.1 (X.2.2.2.2.1 _ (List.mem_cons_of_mem _ mw_294)) dX1_rafter_12 ?_
  refine w_l (v' := lN 10000) (by decide) ?_
  refine x_callS (As := [.long v0, .long (lN 1), .long (lN 10000)]) (rest := []) X hne hE (c_X1_checkNumber l g v0 1 10000 hl0 (by decide) (by decide)) ⟨mw_96, mw_97, mw_38, mw_98⟩ sgX1_checkNumber ⟨rfl, rfl, ⟨by decide, by decide⟩, by decide, by decide⟩ (trivial) hX rfl hl.1 rfl (Nat.le_of_ble_eq_true rfl) dX1_rafter_15 (fun E h => xk_G (by simp only [hi, Bool.and_self]) (by rw [ek, hg]; rfl) (fun h9 => h9) h) ⟨by decide, by decide⟩ (fun v H5 hk6 hp => ?_)
  obtain ⟨rfl, hr2⟩ := hp
  have hX := hX.tr hk6
  have hP := PP.ext hP hk6
  have hF := RF.ext hF hk6
  refine W.eq (g2 := F0 m 18 ls []) rfl ?_
  obtain ⟨t, ht0, ht, rfl⟩ := inL_of hr2 (by decide)
  have eT : toL (lN t) = t := toL_k (by omega)
  refine lv_aload_n X.1 X.2.1 dX1_rafter_18 rfl (lv_at hl 0 rfl) ?_
  refine lv_iload_n X.1 X.2.1 dX1_rafter_19 rfl (lv_at hl 1 rfl) ?_
  have hsl := slen_le hO k
  refine p_callV (C := RX1) (b := o) (As := [.int (nI k)]) (rest := []) X (c_X1_sideLength l g o r A x1 y1 q k hk) ⟨mw_295, mw_297, mw_10, mw_38, mw_298⟩ sgX1_sideLength ⟨rfl, rfl, ⟨by decide, by decide⟩, by decide, by decide⟩ (hP.at 0 rfl) rfl rfl (RP.of hP [0, 1] rfl hF) hX.1 rfl hl.1 rfl (Nat.le_of_ble_eq_true rfl) dX1_rafter_20 (fun v H7 hk8 hp => ?_)
  obtain rfl := hp
  have hX := hX.tr hk8
  have hP := PP.ext hP hk8
  have hF := RF.ext hF hk8
  refine W.eq (g2 := F0 m 23 ls [.long (lN (slen x1 y1 k))]) rfl ?_
  refine lv_lload_n X.1 X.2.1 dX1_rafter_23 rfl (lv_at hl 2 rfl) ?_
  refine lv_ldiv X.1 X.2.1 dX1_rafter_24 (ln_ne (by omega) (by omega)) ?_
  refine w_l (pk_lDiv (by omega) (by omega) (by omega)) ?_
  refine lv_l2i X.1 X.2.1 dX1_rafter_25 (lN_i _) ?_
  refine lv_iconst (v := nI 1) X.1 X.2.1 dX1_rafter_26 (by decide) ?_
  refine lv_iadd X.1 X.2.1 dX1_rafter_27 ?_
  refine w_i (nI_add _ _) ?_
  exact vx_ret (p_iret X hX (⟨⟨hi, by rw [ek, hg]; rfl, hr2⟩, by simp only [ek, eT]⟩) ⟨by decide, by decide⟩ dX1_rafter_28)
set_option maxHeartbeats 4000000 in
set_option maxRecDepth 100000 in
theorem c_X1_batten (l : Launch) (g : En) (o r : Nat) (A : Nat → Nat) (x1 y1 : Nat) (q : Nat → Rat) (i : Int32) (v0 : Int64) (hl0 : l.stackTraces = false) (hO : OK x1 y1 q) : XM l yX1_batten cX1_batten 6 (some FieldType.int) { frames := 8, cells := 16, slots := 44, locals := 125 } g [.ref o, .int i, .long v0] (fun H => RP g o r A x1 y1 q H) 16 44 (rK (inI i 4) (!gab q (toN i)) (inL v0 1 10000) (.int (nI (isq (nu (sqr q (toN i) (pk x1 y1 q * q (toN i))) / (sqr q (toN i) (pk x1 y1 q * q (toN i))).den) / toL v0)))) (xk (inI i 4) (!gab q (toN i)) (inL v0 1 10000)) := by
  refine XM.of (by decide) (Nat.le_of_ble_eq_true rfl) (fun p e s m below meth c ls X hne hE hG hl => ?_)
  obtain ⟨hP, hF⟩ := hG
  have hl : lv_has ls 6 [(0, .ref o), (1, .int i), (2, .long v0)] := hl
  have hX : hxt s.heap s.heap := hxt.rf
  have hP : PP g [ob o x1 y1 r, ar g r A] s.heap := hP
  refine lv_iload_n X.1 X.2.1 dX1_batten_0 rfl (lv_at hl 1 rfl) ?_
  refine lv_iconst (v := nI 4) X.1 X.2.1 dX1_batten_1 (by decide) ?_
  refine x_callS (As := [.int i, .int (nI 4)]) (rest := []) X hne hE (c_X1_checkIndex l g i 4 hl0 (by decide)) ⟨mw_175, mw_176, mw_38, mw_177⟩ sgX1_checkIndex ⟨rfl, rfl, ⟨by decide, by decide⟩, by decide, by decide⟩ (trivial) hX rfl hl.1 rfl (Nat.le_of_ble_eq_true rfl) dX1_batten_2 (fun E h => xk_A (fun h9 => by simp only [h9, Bool.false_and, Bool.and_false, Bool.true_and]) h) ⟨by decide, by decide⟩ (fun v H1 hk2 hp => ?_)
  obtain ⟨rfl, hi⟩ := hp
  have hX := hX.tr hk2
  have hP := PP.ext hP hk2
  have hF := RF.ext hF hk2
  refine W.eq (g2 := F0 m 5 ls []) rfl ?_
  obtain ⟨k, hk, rfl⟩ := inI_of hi (by decide)
  have ek : toN (nI k) = k := toN_k (by omega)
  refine lv_aload_n X.1 X.2.1 dX1_batten_5 rfl (lv_at hl 0 rfl) ?_
  refine lv_iload_n X.1 X.2.1 dX1_batten_6 rfl (lv_at hl 1 rfl) ?_
  refine x_callV (C := RX1) (b := o) (As := [.int (nI k)]) (rest := []) X hne hE (c_X1_checkNoGable l g o r A x1 y1 q k hl0 hk (hO.2.2.1 _ hk)) ⟨mw_289, mw_291, mw_9, mw_38, mw_292⟩ sgX1_checkNoGable ⟨rfl, rfl, ⟨by decide, by decide⟩, by decide, by decide⟩ (hP.at 0 rfl) rfl rfl (RP.of hP [0, 1] rfl hF) hX rfl hl.1 rfl (Nat.le_of_ble_eq_true rfl) dX1_batten_7 (fun E h => xk_S (by simp only [hi, Bool.and_self]) (fun h9 => by rw [ek]; exact h9) h) ⟨by decide, by decide⟩ (fun v H3 hk4 hp => ?_)
  obtain ⟨rfl, hr1⟩ := hp
  have hX := hX.tr hk4
  have hP := PP.ext hP hk4
  have hF := RF.ext hF hk4
  refine W.eq (g2 := F0 m 10 ls []) rfl ?_
  have hg := notL hr1
  refine lv_lload_n X.1 X.2.1 dX1_batten_10 rfl (lv_at hl 2 rfl) ?_
  refine lv_lconst (v := lN 1) X.1 X.2.1 dX1_batten_11 (by decide) ?_
  refine lv_ldc2 (v := 10000) X.1 X.2.1 X.2.2.2.1 (X.2.2.2.2.1 _ (List.mem_cons_of_mem _ mw_294)) dX1_batten_12 ?_
  refine w_l (v' := lN 10000) (by decide) ?_
  refine x_callS (As := [.long v0, .long (lN 1), .long (lN 10000)]) (rest := []) X hne hE (c_X1_checkNumber l g v0 1 10000 hl0 (by decide) (by decide)) ⟨mw_96, mw_97, mw_38, mw_98⟩ sgX1_checkNumber ⟨rfl, rfl, ⟨by decide, by decide⟩, by decide, by decide⟩ (trivial) hX rfl hl.1 rfl (Nat.le_of_ble_eq_true rfl) dX1_batten_15 (fun E h => xk_G (by simp only [hi, Bool.and_self]) (by rw [ek, hg]; rfl) (fun h9 => h9) h) ⟨by decide, by decide⟩ (fun v H5 hk6 hp => ?_)
  obtain ⟨rfl, hr2⟩ := hp
  have hX := hX.tr hk6
  have hP := PP.ext hP hk6
  have hF := RF.ext hF hk6
  refine W.eq (g2 := F0 m 18 ls []) rfl ?_
  obtain ⟨t, ht0, ht, rfl⟩ := inL_of hr2 (by decide)
  have eT : toL (lN t) = t := toL_k (by omega)
  refine lv_aload_n X.1 X.2.1 dX1_batten_18 rfl (lv_at hl 0 rfl) ?_
  refine lv_iload_n X.1 X.2.1 dX1_batten_19 rfl (lv_at hl 1 rfl) ?_
  refine lv_aload_n X.1 X.2.1 dX1_batten_20 rfl (lv_at hl 0 rfl) ?_
  refine lv_iload_n X.1 X.2.1 dX1_batten_21 rfl (lv_at hl 1 rfl) ?_
  have bz := bd_in hO hk
  have bs := bd_sqr (hO.2.2.1 k hk) (gab_pos (hO.2.2.1 k hk) hg) bz
  refine p_callV (C := RX1) (b := o) (As := [.int (nI k)]) (rest := [.int (nI k), .ref o]) X (c_X1_inAtPeak l g o r A x1 y1 q k hO hk) ⟨mw_407, mw_409, mw_18, mw_38, mw_410⟩ sgX1_inAtPeak ⟨rfl, rfl, ⟨by decide, by decide⟩, by decide, by decide⟩ (hP.at 0 rfl) rfl rfl (RP.of hP [0, 1] rfl hF) hX.1 rfl hl.1 rfl (Nat.le_of_ble_eq_true rfl) dX1_batten_22 (fun v H7 hk8 hp => ?_)
  obtain ⟨r9, rfl, hr9⟩ := hp
  have hX := hX.tr hk8
  have hP := PP.ext hP hk8
  have hF := RF.ext hF hk8
  have hP := PP.cons hr9 hP
  refine W.eq (g2 := F0 m 25 ls [.ref r9, .int (nI k), .ref o]) rfl ?_
  refine p_callV (C := RX1) (b := o) (As := [.int (nI k), .ref r9]) (rest := []) X (c_X1_squareAlongSlope l g o r A x1 y1 q k r9 _ hO hk hg bz) ⟨mw_360, mw_362, mw_16, mw_38, mw_363⟩ sgX1_squareAlongSlope ⟨rfl, rfl, ⟨by decide, by decide⟩, by decide, by decide⟩ (hP.at 1 rfl) rfl rfl (⟨RP.of hP [1, 2] rfl hF, hP.at 0 rfl⟩) hX.1 rfl hl.1 rfl (Nat.le_of_ble_eq_true rfl) dX1_batten_25 (fun v H10 hk11 hp => ?_)
  obtain ⟨r12, rfl, hr12⟩ := hp
  have hX := hX.tr hk11
  have hP := PP.ext hP hk11
  have hF := RF.ext hF hk11
  have hP := PP.cons hr12 hP
  refine W.eq (g2 := F0 m 28 ls [.ref r12]) rfl ?_
  generalize hSS : sqr q k (pk x1 y1 q * q k) = SS at bs hP
  refine p_callV (C := RX0) (b := r12) (As := []) (rest := []) X (b_cut l g _ bs (by decide) (by decide)) ⟨mw_372, mw_373, mw_374, mw_39, mw_375⟩ sgX0_cutOff ⟨rfl, rfl, ⟨by decide, by decide⟩, by decide, by decide⟩ (hP.at 0 rfl) rfl rfl (hP.sub [0] rfl) hX.1 rfl hl.1 rfl (Nat.le_of_ble_eq_true rfl) dX1_batten_28 (fun v H13 hk14 hp => ?_)
  obtain rfl := hp
  have hX := hX.tr hk14
  have hP := PP.ext hP hk14
  have hF := RF.ext hF hk14
  refine W.eq (g2 := F0 m 31 ls [.long (lN (nu SS / SS.den))]) rfl ?_
  have hn1 := bs.2.1
  have hq9 : nu SS / SS.den ≤ nu SS := Nat.div_le_self _ _
  have hsq := isq_ok (n := nu SS / SS.den) (by omega)
  refine p_callS (As := [.long (lN (nu SS / SS.den))]) (rest := []) X (c_X1_root l g _ (by omega)) ⟨mw_376, mw_377, mw_38, mw_378⟩ sgX1_root ⟨rfl, rfl, ⟨by decide, by decide⟩, by decide, by decide⟩ (trivial) hX.1 rfl hl.1 rfl (Nat.le_of_ble_eq_true rfl) dX1_batten_31 (fun v H15 hk16 hp => ?_)
  obtain rfl := hp
  have hX := hX.tr hk16
  have hP := PP.ext hP hk16
  have hF := RF.ext hF hk16
  refine W.eq (g2 := F0 m 34 ls [.long (lN (isq (nu SS / SS.den)))]) rfl ?_
  have hle9 : isq (nu SS / SS.den) ≤ nu SS / SS.den := sq_le hsq.1
  refine lv_lstore (lv' := [(4, .long (lN (isq (nu SS / SS.den)))), (0, .ref o), (1, .int (nI k)), (2, .long (lN t))]) X.1 X.2.1 dX1_batten_34 hl (by decide) rfl (fun ls hl => ?_)
  refine lv_lload X.1 X.2.1 dX1_batten_36 (lv_at hl 0 rfl) ?_
  refine lv_lload_n X.1 X.2.1 dX1_batten_38 rfl (lv_at hl 3 rfl) ?_
  refine lv_ldiv X.1 X.2.1 dX1_batten_39 (ln_ne (by omega) (by omega)) ?_
  refine w_l (pk_lDiv (by omega) (by omega) (by omega)) ?_
  refine lv_l2i X.1 X.2.1 dX1_batten_40 (lN_i _) ?_
  exact vx_ret (p_iret X hX (⟨⟨hi, by rw [ek, hg]; rfl, hr2⟩, by simp only [ek, eT, hSS]⟩) ⟨by decide, by decide⟩ dX1_batten_41)
set_option maxHeartbeats 4000000 in
set_option maxRecDepth 100000 in
theorem c_X1_hip (l : Launch) (g : En) (o r : Nat) (A : Nat → Nat) (x1 y1 : Nat) (q : Nat → Rat) (i wh j : Int32) (hl0 : l.stackTraces = false) (hO : OK x1 y1 q) : XM l yX1_hip cX1_hip 5 (some FieldType.long) { frames := 8, cells := 12, slots := 44, locals := 125 } g [.ref o, .int i, .int wh, .int j] (fun H => RP g o r A x1 y1 q H) 12 44 (rK (inI i 4 && inI wh 2 && inI j 2) (!gab q (toN i) && !gab q (behind (toN i))) (true) (.long (lN (prt (pk x1 y1 q * q (if toN wh = 0 then toN i else behind (toN i))) (toN j))))) (xk (inI i 4 && inI wh 2 && inI j 2) (!gab q (toN i) && !gab q (behind (toN i))) (true)) := by
  refine XM.of (by decide) (Nat.le_of_ble_eq_true rfl) (fun p e s m below meth c ls X hne hE hG hl => ?_)
  obtain ⟨hP, hF⟩ := hG
  have hl : lv_has ls 5 [(0, .ref o), (1, .int i), (2, .int wh), (3, .int j)] := hl
  have hX : hxt s.heap s.heap := hxt.rf
  have hP : PP g [ob o x1 y1 r, ar g r A] s.heap := hP
  refine lv_iload_n X.1 X.2.1 dX1_hip_0 rfl (lv_at hl 1 rfl) ?_
  refine lv_iconst (v := nI 4) X.1 X.2.1 dX1_hip_1 (by decide) ?_
  refine x_callS (As := [.int i, .int (nI 4)]) (rest := []) X hne hE (c_X1_checkIndex l g i 4 hl0 (by decide)) ⟨mw_175, mw_176, mw_38, mw_177⟩ sgX1_checkIndex ⟨rfl, rfl, ⟨by decide, by decide⟩, by decide, by decide⟩ (trivial) hX rfl hl.1 rfl (Nat.le_of_ble_eq_true rfl) dX1_hip_2 (fun E h => xk_A (fun h9 => by simp only [h9, Bool.false_and, Bool.and_false, Bool.true_and]) h) ⟨by decide, by decide⟩ (fun v H1 hk2 hp => ?_)
  obtain ⟨rfl, hi⟩ := hp
  have hX := hX.tr hk2
  have hP := PP.ext hP hk2
  have hF := RF.ext hF hk2
  refine W.eq (g2 := F0 m 5 ls []) rfl ?_
  obtain ⟨k, hk, rfl⟩ := inI_of hi (by decide)
  have ek : toN (nI k) = k := toN_k (by omega)
  refine lv_iload_n X.1 X.2.1 dX1_hip_5 rfl (lv_at hl 2 rfl) ?_
  refine lv_iconst (v := nI 2) X.1 X.2.1 dX1_hip_6 (by decide) ?_
  refine x_callS (As := [.int wh, .int (nI 2)]) (rest := []) X hne hE (c_X1_checkIndex l g wh 2 hl0 (by decide)) ⟨mw_175, mw_176, mw_38, mw_177⟩ sgX1_checkIndex ⟨rfl, rfl, ⟨by decide, by decide⟩, by decide, by decide⟩ (trivial) hX rfl hl.1 rfl (Nat.le_of_ble_eq_true rfl) dX1_hip_7 (fun E h => xk_A (fun h9 => by simp only [h9, hi, Bool.false_and, Bool.and_false, Bool.true_and]) h) ⟨by decide, by decide⟩ (fun v H3 hk4 hp => ?_)
  obtain ⟨rfl, hwh⟩ := hp
  have hX := hX.tr hk4
  have hP := PP.ext hP hk4
  have hF := RF.ext hF hk4
  refine W.eq (g2 := F0 m 10 ls []) rfl ?_
  obtain ⟨wn, hwn, rfl⟩ := inI_of hwh (by decide)
  have ewn : toN (nI wn) = wn := toN_k (by omega)
  refine lv_iload_n X.1 X.2.1 dX1_hip_10 rfl (lv_at hl 3 rfl) ?_
  refine lv_iconst (v := nI 2) X.1 X.2.1 dX1_hip_11 (by decide) ?_
  refine x_callS (As := [.int j, .int (nI 2)]) (rest := []) X hne hE (c_X1_checkIndex l g j 2 hl0 (by decide)) ⟨mw_175, mw_176, mw_38, mw_177⟩ sgX1_checkIndex ⟨rfl, rfl, ⟨by decide, by decide⟩, by decide, by decide⟩ (trivial) hX rfl hl.1 rfl (Nat.le_of_ble_eq_true rfl) dX1_hip_12 (fun E h => xk_A (fun h9 => by simp only [h9, hi, hwh, Bool.false_and, Bool.and_false, Bool.true_and]) h) ⟨by decide, by decide⟩ (fun v H5 hk6 hp => ?_)
  obtain ⟨rfl, hj⟩ := hp
  have hX := hX.tr hk6
  have hP := PP.ext hP hk6
  have hF := RF.ext hF hk6
  refine W.eq (g2 := F0 m 15 ls []) rfl ?_
  obtain ⟨pn, hpn, rfl⟩ := inI_of hj (by decide)
  have epn : toN (nI pn) = pn := toN_k (by omega)
  refine lv_iload_n X.1 X.2.1 dX1_hip_15 rfl (lv_at hl 1 rfl) ?_
  have hb := behind_lt k
  refine p_callS (As := [.int (nI k)]) (rest := []) X (c_X1_sideBehind l g k hk) ⟨mw_404, mw_405, mw_38, mw_406⟩ sgX1_sideBehind ⟨rfl, rfl, ⟨by decide, by decide⟩, by decide, by decide⟩ (trivial) hX.1 rfl hl.1 rfl (Nat.le_of_ble_eq_true rfl) dX1_hip_16 (fun v H7 hk8 hp => ?_)
  obtain rfl := hp
  have hX := hX.tr hk8
  have hP := PP.ext hP hk8
  have hF := RF.ext hF hk8
  refine W.eq (g2 := F0 m 19 ls [.int (nI (behind k))]) rfl ?_
  refine lv_istore (lv' := [(4, .int (nI (behind k))), (0, .ref o), (1, .int (nI k)), (2, .int (nI wn)), (3, .int (nI pn))]) X.1 X.2.1 dX1_hip_19 hl (by decide) rfl (fun ls hl => ?_)
  refine lv_aload_n X.1 X.2.1 dX1_hip_21 rfl (lv_at hl 1 rfl) ?_
  refine lv_iload_n X.1 X.2.1 dX1_hip_22 rfl (lv_at hl 2 rfl) ?_
  refine x_callV (C := RX1) (b := o) (As := [.int (nI k)]) (rest := []) X hne hE (c_X1_checkNoGable l g o r A x1 y1 q k hl0 hk (hO.2.2.1 _ hk)) ⟨mw_289, mw_291, mw_9, mw_38, mw_292⟩ sgX1_checkNoGable ⟨rfl, rfl, ⟨by decide, by decide⟩, by decide, by decide⟩ (hP.at 0 rfl) rfl rfl (RP.of hP [0, 1] rfl hF) hX rfl hl.1 rfl (Nat.le_of_ble_eq_true rfl) dX1_hip_23 (fun E h => xk_S (by simp only [hi, hwh, hj, Bool.and_self]) (fun h9 => by rw [ek, h9]; rfl) h) ⟨by decide, by decide⟩ (fun v H9 hk10 hp => ?_)
  obtain ⟨rfl, hr1⟩ := hp
  have hX := hX.tr hk10
  have hP := PP.ext hP hk10
  have hF := RF.ext hF hk10
  refine W.eq (g2 := F0 m 26 ls []) rfl ?_
  refine lv_aload_n X.1 X.2.1 dX1_hip_26 rfl (lv_at hl 1 rfl) ?_
  refine lv_iload X.1 X.2.1 dX1_hip_27 (lv_at hl 0 rfl) ?_
  refine x_callV (C := RX1) (b := o) (As := [.int (nI (behind k))]) (rest := []) X hne hE (c_X1_checkNoGable l g o r A x1 y1 q (behind k) hl0 hb (hO.2.2.1 _ hb)) ⟨mw_289, mw_291, mw_9, mw_38, mw_292⟩ sgX1_checkNoGable ⟨rfl, rfl, ⟨by decide, by decide⟩, by decide, by decide⟩ (hP.at 0 rfl) rfl rfl (RP.of hP [0, 1] rfl hF) hX rfl hl.1 rfl (Nat.le_of_ble_eq_true rfl) dX1_hip_29 (fun E h => xk_S (by simp only [hi, hwh, hj, Bool.and_self]) (fun h9 => by rw [ek, h9, hr1]; rfl) h) ⟨by decide, by decide⟩ (fun v H11 hk12 hp => ?_)
  obtain ⟨rfl, hr2⟩ := hp
  have hX := hX.tr hk12
  have hP := PP.ext hP hk12
  have hF := RF.ext hF hk12
  refine W.eq (g2 := F0 m 32 ls []) rfl ?_
  refine lv_aload_n X.1 X.2.1 dX1_hip_32 rfl (lv_at hl 1 rfl) ?_
  refine lv_iload_n X.1 X.2.1 dX1_hip_33 rfl (lv_at hl 3 rfl) ?_
  refine q_Zne X (by omega) (tgt := 41) dX1_hip_34 (by decide) (fun hB13 => ?_) (fun hB13 => ?_)
  ·
    refine lv_iload X.1 X.2.1 dX1_hip_41 (lv_at hl 0 rfl) ?_
    refine p_callV (C := RX1) (b := o) (As := [.int (nI (behind k))]) (rest := []) X (c_X1_inAtPeak l g o r A x1 y1 q (behind k) hO hb) ⟨mw_407, mw_409, mw_18, mw_38, mw_410⟩ sgX1_inAtPeak ⟨rfl, rfl, ⟨by decide, by decide⟩, by decide, by decide⟩ (hP.at 0 rfl) rfl rfl (RP.of hP [0, 1] rfl hF) hX.1 rfl hl.1 rfl (Nat.le_of_ble_eq_true rfl) dX1_hip_43 (fun v H14 hk15 hp => ?_)
    obtain ⟨r16, rfl, hr16⟩ := hp
    have hX := hX.tr hk15
    have hP := PP.ext hP hk15
    have hF := RF.ext hF hk15
    have hP := PP.cons hr16 hP
    refine W.eq (g2 := F0 m 46 ls [.ref r16]) rfl ?_
    refine lv_iload_n X.1 X.2.1 dX1_hip_46 rfl (lv_at hl 4 rfl) ?_
    refine p_callV (C := RX0) (b := r16) (As := [.int (nI pn)]) (rest := []) X (c_X0_part l g _ pn _ hpn) ⟨mw_271, mw_272, mw_273, mw_39, mw_274⟩ sgX0_part ⟨rfl, rfl, ⟨by decide, by decide⟩, by decide, by decide⟩ (hP.at 0 rfl) rfl rfl (hP.sub [0] rfl) hX.1 rfl hl.1 rfl (Nat.le_of_ble_eq_true rfl) dX1_hip_47 (fun v H17 hk18 hp => ?_)
    obtain rfl := hp
    have hX := hX.tr hk18
    have hP := PP.ext hP hk18
    have hF := RF.ext hF hk18
    refine W.eq (g2 := F0 m 50 ls [.long (lN (prt (pk x1 y1 q * q (behind k)) pn))]) rfl ?_
    exact vx_ret (p_lret X hX (⟨⟨by simp only [hi, hwh, hj, Bool.and_self], by rw [ek, hr1, hr2]; rfl, rfl⟩, by simp only [ek, ewn, epn]; rw [if_neg hB13]⟩) ⟨by decide, by decide⟩ dX1_hip_50)
  ·
    refine lv_iload_n X.1 X.2.1 dX1_hip_37 rfl (lv_at hl 2 rfl) ?_
    refine lv_goto (tgt := 43) X.1 X.2.1 dX1_hip_38 (by decide) ?_
    refine p_callV (C := RX1) (b := o) (As := [.int (nI k)]) (rest := []) X (c_X1_inAtPeak l g o r A x1 y1 q k hO hk) ⟨mw_407, mw_409, mw_18, mw_38, mw_410⟩ sgX1_inAtPeak ⟨rfl, rfl, ⟨by decide, by decide⟩, by decide, by decide⟩ (hP.at 0 rfl) rfl rfl (RP.of hP [0, 1] rfl hF) hX.1 rfl hl.1 rfl (Nat.le_of_ble_eq_true rfl) dX1_hip_43 (fun v H19 hk20 hp => ?_)
    obtain ⟨r21, rfl, hr21⟩ := hp
    have hX := hX.tr hk20
    have hP := PP.ext hP hk20
    have hF := RF.ext hF hk20
    have hP := PP.cons hr21 hP
    refine W.eq (g2 := F0 m 46 ls [.ref r21]) rfl ?_
    refine lv_iload_n X.1 X.2.1 dX1_hip_46 rfl (lv_at hl 4 rfl) ?_
    refine p_callV (C := RX0) (b := r21) (As := [.int (nI pn)]) (rest := []) X (c_X0_part l g _ pn _ hpn) ⟨mw_271, mw_272, mw_273, mw_39, mw_274⟩ sgX0_part ⟨rfl, rfl, ⟨by decide, by decide⟩, by decide, by decide⟩ (hP.at 0 rfl) rfl rfl (hP.sub [0] rfl) hX.1 rfl hl.1 rfl (Nat.le_of_ble_eq_true rfl) dX1_hip_47 (fun v H22 hk23 hp => ?_)
    obtain rfl := hp
    have hX := hX.tr hk23
    have hP := PP.ext hP hk23
    have hF := RF.ext hF hk23
    refine W.eq (g2 := F0 m 50 ls [.long (lN (prt (pk x1 y1 q * q k) pn))]) rfl ?_
    exact vx_ret (p_lret X hX (⟨⟨by simp only [hi, hwh, hj, Bool.and_self], by rw [ek, hr1, hr2]; rfl, rfl⟩, by simp only [ek, ewn, epn]; rw [if_pos hB13]⟩) ⟨by decide, by decide⟩ dX1_hip_50)
set_option maxHeartbeats 4000000 in
set_option maxRecDepth 100000 in
theorem c_X1_place (l : Launch) (g : En) (o r : Nat) (A : Nat → Nat) (x1 y1 : Nat) (q : Nat → Rat) (vx vy : Int64) (j : Int32) (hl0 : l.stackTraces = false) (hO : OK x1 y1 q) : XM l yX1_place cX1_place 6 (some FieldType.long) { frames := 8, cells := 10, slots := 32, locals := 135 } g [.ref o, .long vx, .long vy, .int j] (fun H => RP g o r A x1 y1 q H) 10 32 (rK (inI j 2) (true) (inL vx 0 x1 && inL vy 0 y1) (.long (lN (prt (hgt x1 y1 q (toL vx) (toL vy) (lwp x1 y1 q (toL vx) (toL vy) 3)) (toN j))))) (xk (inI j 2) (true) (inL vx 0 x1 && inL vy 0 y1)) := by
  refine XM.of (by decide) (Nat.le_of_ble_eq_true rfl) (fun p e s m below meth c ls X hne hE hG hl => ?_)
  obtain ⟨hP, hF⟩ := hG
  have hl : lv_has ls 6 [(0, .ref o), (1, .long vx), (3, .long vy), (5, .int j)] := hl
  have hX : hxt s.heap s.heap := hxt.rf
  have hP : PP g [ob o x1 y1 r, ar g r A] s.heap := hP
  refine lv_iload X.1 X.2.1 dX1_place_0 (lv_at hl 3 rfl) ?_
  refine lv_iconst (v := nI 2) X.1 X.2.1 dX1_place_2 (by decide) ?_
  refine x_callS (As := [.int j, .int (nI 2)]) (rest := []) X hne hE (c_X1_checkIndex l g j 2 hl0 (by decide)) ⟨mw_175, mw_176, mw_38, mw_177⟩ sgX1_checkIndex ⟨rfl, rfl, ⟨by decide, by decide⟩, by decide, by decide⟩ (trivial) hX rfl hl.1 rfl (Nat.le_of_ble_eq_true rfl) dX1_place_3 (fun E h => xk_A (fun h9 => by simp only [h9, Bool.false_and, Bool.and_false, Bool.true_and]) h) ⟨by decide, by decide⟩ (fun v H1 hk2 hp => ?_)
  obtain ⟨rfl, hj⟩ := hp
  have hX := hX.tr hk2
  have hP := PP.ext hP hk2
  have hF := RF.ext hF hk2
  refine W.eq (g2 := F0 m 6 ls []) rfl ?_
  obtain ⟨pn, hpn, rfl⟩ := inI_of hj (by decide)
  have epn : toN (nI pn) = pn := toN_k (by omega)
  refine lv_aload_n X.1 X.2.1 dX1_place_6 rfl (lv_at hl 0 rfl) ?_
  refine lv_lload_n X.1 X.2.1 dX1_place_7 rfl (lv_at hl 1 rfl) ?_
  refine lv_lload_n X.1 X.2.1 dX1_place_8 rfl (lv_at hl 2 rfl) ?_
  have hX2 := hO.1.2
  have hY2 := hO.2.1.2
  refine x_callV (C := RX1) (b := o) (As := [.long vx, .long vy]) (rest := []) X hne hE (c_X1_checkInOutline l g o r A x1 y1 q vx vy hl0 hO) ⟨mw_247, mw_249, mw_4, mw_38, mw_250⟩ sgX1_checkInOutline ⟨rfl, rfl, ⟨by decide, by decide⟩, by decide, by decide⟩ (hP.at 0 rfl) rfl rfl (RP.of hP [0, 1] rfl hF) hX rfl hl.1 rfl (Nat.le_of_ble_eq_true rfl) dX1_place_9 (fun E h => xk_G (hj) rfl (fun h9 => h9) h) ⟨by decide, by decide⟩ (fun v H3 hk4 hp => ?_)
  obtain ⟨rfl, hr⟩ := hp
  have hX := hX.tr hk4
  have hP := PP.ext hP hk4
  have hF := RF.ext hF hk4
  refine W.eq (g2 := F0 m 12 ls []) rfl ?_
  obtain ⟨hr1, hr2⟩ := andL hr
  obtain ⟨x, -, hx, rfl⟩ := inL_of hr1 (by omega)
  obtain ⟨y, -, hy, rfl⟩ := inL_of hr2 (by omega)
  have eX : toL (lN x) = x := toL_k (by omega)
  have eY : toL (lN y) = y := toL_k (by omega)
  obtain ⟨hlo, hlg⟩ := lwp_ok hO x y
  refine lv_aload_n X.1 X.2.1 dX1_place_12 rfl (lv_at hl 0 rfl) ?_
  refine lv_aload_n X.1 X.2.1 dX1_place_13 rfl (lv_at hl 0 rfl) ?_
  refine lv_lload_n X.1 X.2.1 dX1_place_14 rfl (lv_at hl 1 rfl) ?_
  refine lv_lload_n X.1 X.2.1 dX1_place_15 rfl (lv_at hl 2 rfl) ?_
  refine p_callV (C := RX1) (b := o) (As := [.long (lN x), .long (lN y)]) (rest := [.ref o]) X (c_X1_lowestSide l g o r A x1 y1 q x y hO hx hy) ⟨mw_251, mw_253, mw_5, mw_38, mw_254⟩ sgX1_lowestSide ⟨rfl, rfl, ⟨by decide, by decide⟩, by decide, by decide⟩ (hP.at 0 rfl) rfl rfl (RP.of hP [0, 1] rfl hF) hX.1 rfl hl.1 rfl (Nat.le_of_ble_eq_true rfl) dX1_place_16 (fun v H5 hk6 hp => ?_)
  obtain rfl := hp
  have hX := hX.tr hk6
  have hP := PP.ext hP hk6
  have hF := RF.ext hF hk6
  refine W.eq (g2 := F0 m 19 ls [.int (nI (lwp x1 y1 q x y 3)), .ref o]) rfl ?_
  refine lv_lload_n X.1 X.2.1 dX1_place_19 rfl (lv_at hl 1 rfl) ?_
  refine lv_lload_n X.1 X.2.1 dX1_place_20 rfl (lv_at hl 2 rfl) ?_
  refine p_callV (C := RX1) (b := o) (As := [.int (nI (lwp x1 y1 q x y 3)), .long (lN x), .long (lN y)]) (rest := []) X (c_X1_planeHeight l g o r A x1 y1 q _ x y hO hlo hx hy hlg) ⟨mw_259, mw_261, mw_7, mw_38, mw_262⟩ sgX1_planeHeight ⟨rfl, rfl, ⟨by decide, by decide⟩, by decide, by decide⟩ (hP.at 0 rfl) rfl rfl (RP.of hP [0, 1] rfl hF) hX.1 rfl hl.1 rfl (Nat.le_of_ble_eq_true rfl) dX1_place_21 (fun v H7 hk8 hp => ?_)
  obtain ⟨r9, rfl, hr9⟩ := hp
  have hX := hX.tr hk8
  have hP := PP.ext hP hk8
  have hF := RF.ext hF hk8
  have hP := PP.cons hr9 hP
  refine W.eq (g2 := F0 m 24 ls [.ref r9]) rfl ?_
  refine lv_iload X.1 X.2.1 dX1_place_24 (lv_at hl 3 rfl) ?_
  refine p_callV (C := RX0) (b := r9) (As := [.int (nI pn)]) (rest := []) X (c_X0_part l g _ pn _ hpn) ⟨mw_271, mw_272, mw_273, mw_39, mw_274⟩ sgX0_part ⟨rfl, rfl, ⟨by decide, by decide⟩, by decide, by decide⟩ (hP.at 0 rfl) rfl rfl (hP.sub [0] rfl) hX.1 rfl hl.1 rfl (Nat.le_of_ble_eq_true rfl) dX1_place_26 (fun v H10 hk11 hp => ?_)
  obtain rfl := hp
  have hX := hX.tr hk11
  have hP := PP.ext hP hk11
  have hF := RF.ext hF hk11
  refine W.eq (g2 := F0 m 29 ls [.long (lN (prt (hgt x1 y1 q x y (lwp x1 y1 q x y 3)) pn))]) rfl ?_
  exact vx_ret (p_lret X hX (⟨⟨hj, rfl, hr⟩, by simp only [eX, eY, epn]⟩) ⟨by decide, by decide⟩ dX1_place_29)
set_option maxHeartbeats 4000000 in
set_option maxRecDepth 100000 in
theorem c_X1_face (l : Launch) (g : En) (o r : Nat) (A : Nat → Nat) (x1 y1 : Nat) (q : Nat → Rat) (vx vy : Int64) (hl0 : l.stackTraces = false) (hO : OK x1 y1 q) : XM l yX1_face cX1_face 5 (some FieldType.int) { frames := 8, cells := 8, slots := 24, locals := 135 } g [.ref o, .long vx, .long vy] (fun H => RP g o r A x1 y1 q H) 8 24 (rK (true) (true) (inL vx 0 x1 && inL vy 0 y1) (.int (nI (lwp x1 y1 q (toL vx) (toL vy) 3)))) (xk (true) (true) (inL vx 0 x1 && inL vy 0 y1)) := by
  refine XM.of (by decide) (Nat.le_of_ble_eq_true rfl) (fun p e s m below meth c ls X hne hE hG hl => ?_)
  obtain ⟨hP, hF⟩ := hG
  have hl : lv_has ls 5 [(0, .ref o), (1, .long vx), (3, .long vy)] := hl
  have hX : hxt s.heap s.heap := hxt.rf
  have hP : PP g [ob o x1 y1 r, ar g r A] s.heap := hP
  refine lv_aload_n X.1 X.2.1 dX1_face_0 rfl (lv_at hl 0 rfl) ?_
  refine lv_lload_n X.1 X.2.1 dX1_face_1 rfl (lv_at hl 1 rfl) ?_
  refine lv_lload_n X.1 X.2.1 dX1_face_2 rfl (lv_at hl 2 rfl) ?_
  have hX2 := hO.1.2
  have hY2 := hO.2.1.2
  refine x_callV (C := RX1) (b := o) (As := [.long vx, .long vy]) (rest := []) X hne hE (c_X1_checkInOutline l g o r A x1 y1 q vx vy hl0 hO) ⟨mw_247, mw_249, mw_4, mw_38, mw_250⟩ sgX1_checkInOutline ⟨rfl, rfl, ⟨by decide, by decide⟩, by decide, by decide⟩ (hP.at 0 rfl) rfl rfl (RP.of hP [0, 1] rfl hF) hX rfl hl.1 rfl (Nat.le_of_ble_eq_true rfl) dX1_face_3 (fun E h => xk_G (rfl) rfl (fun h9 => h9) h) ⟨by decide, by decide⟩ (fun v H1 hk2 hp => ?_)
  obtain ⟨rfl, hr⟩ := hp
  have hX := hX.tr hk2
  have hP := PP.ext hP hk2
  have hF := RF.ext hF hk2
  refine W.eq (g2 := F0 m 6 ls []) rfl ?_
  obtain ⟨hr1, hr2⟩ := andL hr
  obtain ⟨x, -, hx, rfl⟩ := inL_of hr1 (by omega)
  obtain ⟨y, -, hy, rfl⟩ := inL_of hr2 (by omega)
  have eX : toL (lN x) = x := toL_k (by omega)
  have eY : toL (lN y) = y := toL_k (by omega)
  obtain ⟨hlo, hlg⟩ := lwp_ok hO x y
  refine lv_aload_n X.1 X.2.1 dX1_face_6 rfl (lv_at hl 0 rfl) ?_
  refine lv_lload_n X.1 X.2.1 dX1_face_7 rfl (lv_at hl 1 rfl) ?_
  refine lv_lload_n X.1 X.2.1 dX1_face_8 rfl (lv_at hl 2 rfl) ?_
  refine p_callV (C := RX1) (b := o) (As := [.long (lN x), .long (lN y)]) (rest := []) X (c_X1_lowestSide l g o r A x1 y1 q x y hO hx hy) ⟨mw_251, mw_253, mw_5, mw_38, mw_254⟩ sgX1_lowestSide ⟨rfl, rfl, ⟨by decide, by decide⟩, by decide, by decide⟩ (hP.at 0 rfl) rfl rfl (RP.of hP [0, 1] rfl hF) hX.1 rfl hl.1 rfl (Nat.le_of_ble_eq_true rfl) dX1_face_9 (fun v H3 hk4 hp => ?_)
  obtain rfl := hp
  have hX := hX.tr hk4
  have hP := PP.ext hP hk4
  have hF := RF.ext hF hk4
  refine W.eq (g2 := F0 m 12 ls [.int (nI (lwp x1 y1 q x y 3))]) rfl ?_
  exact vx_ret (p_iret X hX (⟨⟨rfl, rfl, hr⟩, by simp only [eX, eY]⟩) ⟨by decide, by decide⟩ dX1_face_12)
end
section
/-! contracts of methods that change some old cells -/
def hxf (F : Nat → Prop) (H H1 : Heap) : Prop := H.size ≤ H1.size ∧ ∀ q : Nat, q < H.size → ¬ F q → H1[q]? = H[q]?
theorem hxf.rf {F : Nat → Prop} {H : Heap} : hxf F H H := ⟨Nat.le_refl _, fun _ _ _ => rfl⟩
theorem hxf.tr {F : Nat → Prop} {H H1 H2 : Heap} (h : hxf F H H1) (k : hxt H1 H2) : hxf F H H2 := ⟨Nat.le_trans h.1 k.1, fun q h1 h2 => (k.2 q (Nat.lt_of_lt_of_le h1 h.1)).trans (h.2 q h1 h2)⟩
theorem hxf.trf {F F' : Nat → Prop} {H H1 H2 : Heap} (h : hxf F H H1) (hF : ∀ q, F' q → F q) (k : hxf F' H1 H2) : hxf F H H2 := ⟨Nat.le_trans h.1 k.1, fun q h1 h2 => (k.2 q (Nat.lt_of_lt_of_le h1 h.1) (fun h3 => h2 (hF q h3))).trans (h.2 q h1 h2)⟩
theorem hxf.tra {F : Nat → Prop} {H H1 H2 : Heap} {a : Nat} (h : hxf F H H1) (hF : F a) (k : hxa a H1 H2) : hxf F H H2 := ⟨Nat.le_trans h.1 k.1, fun q h1 h2 => (k.2 q (Nat.lt_of_lt_of_le h1 h.1) (fun h3 => h2 (h3 ▸ hF))).trans (h.2 q h1 h2)⟩
theorem hxf.of {F : Nat → Prop} {H H1 : Heap} (h : hxt H H1) : hxf F H H1 := ⟨h.1, fun q h1 _ => h.2 q h1⟩
def lok (F : Nat → Prop) (sz : Nat) (locs : List Loc) : Prop := ∀ q ∈ locs, F q.base ∨ sz ≤ q.base
theorem lok.nil {F : Nat → Prop} {sz : Nat} : lok F sz [] := fun q h => nomatch h
/-- cells that are not the one that is written stay -/
theorem PP.exa {g : En} {ws : va_W} {H H1 : Heap} {a : Nat} (h : PP g ws H) (k : hxa a H H1) (hd : ∀ q ∈ ws, q.1 ≠ a) : PP g ws H1 := fun i q hq => (h i q hq).kept (k.2 q.1 (h i q hq).lt (hd q (List.mem_of_getElem? hq)))
theorem PP.exf {g : En} {ws : va_W} {H H1 : Heap} {F : Nat → Prop} (h : PP g ws H) (k : hxf F H H1) (hd : ∀ q ∈ ws, ¬ F q.1) : PP g ws H1 := fun i q hq => (h i q hq).kept (k.2 q.1 (h i q hq).lt (hd q (List.mem_of_getElem? hq)))
def fQ (F : Nat → Prop) (post : Option Value → Heap → Prop) : Array Value → State → Outcome → State → Prop := fun _ st o t => ∃ v, o = .returned v ∧ hxf F st.heap t.heap ∧ post v t.heap
def FM (l : Launch) (y : MethodName) (cy : ByteArray) (nl : Nat) (ret : Option FieldType) (rm : Room) (g : En) (av : List Value) (G : Heap → Prop) (F : Nat → Prop) (mc ms : Nat) (post : Option Value → Heap → Prop) : Prop :=
  ∀ sz : Nat, Met l y (Cond.code y cy nl ret :: tb) rm (pPc g av G sz) (fQ F post) mc ms (fun q => F q ∨ sz ≤ q)
theorem FM.of {l : Launch} {y : MethodName} {cy : ByteArray} {nl : Nat} {ret : Option FieldType} {rm : Room} {g : En} {av : List Value} {G : Heap → Prop} {F : Nat → Prop} {mc ms : Nat} {post : Option Value → Heap → Prop} (hy : plainName y.cls = true) (hav : (lg_sl av).length ≤ nl)
    (body : ∀ (p : Program) (e : Env) (s : State) (m : MethodId) (below : List Frame) (meth : Method) (c : Code) (ls : Array Slot), CX p s m av.toArray meth c y cy nl ret g → G s.heap → lv_has ls nl (lv_args 0 av) →
      W p l e rm s m av.toArray below meth c s.heap [] 0 0 (MQ below (fQ F post) av.toArray s mc ms (fun q => F q ∨ s.heap.size ≤ q)) (F0 m 0 ls [])) : FM l y cy nl ret rm g av G F mc ms post := by
  intro sz
  refine Met.ofW (cc := cy) (maxL := nl) (ret := ret) hy rfl ?_
  intro p e s m args below meth c s₁ B hml hv
  obtain ⟨rfl, hsz, hG, hK⟩ := hv
  subst hsz
  have hts := atoms_spec (ws := Cond.code y cy nl ret :: tb) B.pre
  rw [lg_entry_eq]
  exact body p e s m below meth c _ ⟨B.exec, B.bytes, hml, findClass_of_methodNamed B.named, hts, B.returns, B.notSynchronized, hK, fun h => (name_of_methodNamed B.named B.method).1.trans h, B.noHandlers (hts _ List.mem_cons_self)⟩ hG (lv_entry av hav)
/-- .. or throw before they do -/
def YM (l : Launch) (y : MethodName) (cy : ByteArray) (nl : Nat) (ret : Option FieldType) (rm : Room) (g : En) (av : List Value) (G : Heap → Prop) (F : Nat → Prop) (mc ms : Nat) (post : Option Value → Heap → Prop) (px : String → Prop) : Prop :=
  ∀ sz : Nat, vx_Met l y (Cond.code y cy nl ret :: tb) rm (xPc g av G sz) (fQ F post) (xQ px) mc ms (fun q => F q ∨ sz ≤ q)
theorem YM.of {l : Launch} {y : MethodName} {cy : ByteArray} {nl : Nat} {ret : Option FieldType} {rm : Room} {g : En} {av : List Value} {G : Heap → Prop} {F : Nat → Prop} {mc ms : Nat} {post : Option Value → Heap → Prop} {px : String → Prop} (hy : plainName y.cls = true) (hav : (lg_sl av).length ≤ nl)
    (body : ∀ (p : Program) (e : Env) (s : State) (m : MethodId) (below : List Frame) (meth : Method) (c : Code) (ls : Array Slot), CX p s m av.toArray meth c y cy nl ret g → (∀ x ∈ c.exceptionTable.toList, False) → EX s → G s.heap → lv_has ls nl (lv_args 0 av) →
      W p l e rm s m av.toArray below meth c s.heap [] 0 0 (vx_MQ below (fQ F post) (xQ px) av.toArray s mc ms (fun q => F q ∨ s.heap.size ≤ q)) (F0 m 0 ls [])) : YM l y cy nl ret rm g av G F mc ms post px := by
  intro sz
  refine vx_ofW (cc := cy) (maxL := nl) (ret := ret) hy rfl ?_
  intro p e s m args below meth c s₁ B hml hne hv
  obtain ⟨rfl, hsz, hG, hK, hE⟩ := hv
  subst hsz
  have hts := atoms_spec (ws := Cond.code y cy nl ret :: tb) B.pre
  rw [lg_entry_eq]
  exact body p e s m below meth c _ ⟨B.exec, B.bytes, hml, findClass_of_methodNamed B.named, hts, B.returns, B.notSynchronized, hK, fun h => (name_of_methodNamed B.named B.method).1.trans h, B.noHandlers (hts _ List.mem_cons_self)⟩ hne hE hG (lv_entry av hav)
section FW
variable {p : Program} {l : Launch} {e : Env} {R : Room} {s : State} {m : MethodId} {args : Array Value} {below : List Frame} {meth : Method} {c : Code} {H : Heap} {locs : List Loc} {cells slots : Nat} {Q : State → Prop} {pc : Nat} {ls : Array Slot} {rest st0 : List Value} {g : En}
variable {y y' : MethodName} {cy cy' : ByteArray} {nl nl' : Nat} {ret ret' : Option FieldType}
variable {mc ms n idx : Nat} {post : Option Value → Heap → Prop} {px : String → Prop} {a : Array Value} {rm : Room} {G : Heap → Prop} {b : Nat} {As : List Value} {C : String} {F F' : Nat → Prop}
theorem f_call (hr : CallRun p l e R s m args below meth c H locs cells slots mc ms (F0 m pc ls st0) rest (fQ F' post a) (fun q => F' q ∨ H.size ≤ q)) (hs : s.heap.size ≤ H.size) (hF : ∀ q, F' q → F q) (hlo : lok F s.heap.size locs)
    (kk : ∀ (v : Option Value) (H1 : Heap) (locs1 : List Loc), hxf F' H H1 → lok F s.heap.size locs1 → post v H1 → W p l e R s m args below meth c H1 locs1 (cells + mc) (slots + ms) Q (F0 m (pc + 3) ls (v.toList ++ rest))) : W p l e R s m args below meth c H locs cells slots Q (F0 m pc ls st0) := by
  intro T hT X
  obtain ⟨v, st₀, t, T', L, h0, X', hL, e1, ⟨v', f1, f2, f3⟩, st⟩ := hr T hT X
  cases f1
  rw [h0] at f2
  obtain ⟨t2, a1, b1⟩ := kk v t.heap (locs ++ L) f2 (fun q hq => by
    rcases List.mem_append.mp hq with h | h
    · exact hlo q h
    · rcases hL q h with h | h
      · exact Or.inl (hF _ h)
      · exact Or.inr (Nat.le_trans hs h)) f3 T' e1 X'
  exact ⟨t2, st t2 a1, b1⟩
theorem f_callV (X : CX p s m args meth c y cy nl ret g) (hM : FM l y' cy' nl' ret' rm g (.ref b :: As) G F' mc ms post)
    (hw : Cond.methodLink y.cls idx y' ∈ tb ∧ Cond.instanceMethod y' ∈ tb ∧ Cond.selects C y' y' ∈ tb ∧ Cond.initialized C ∈ tb ∧ Cond.code y' cy' nl' ret' ∈ tb)
    (hd : y'.cls = C ∧ y'.cls ≠ "java/lang/invoke/MethodHandle" ∧ y'.cls ≠ "java/lang/invoke/VarHandle" ∧ (parseMethodDescriptor y'.desc).map (fun d => d.parameters.length) = some n)
    (hrm : rm.cells = mc ∧ rm.slots = ms ∧ (rm.frames + 1 ≤ R.frames ∧ 8 + (nl' + 11) + rm.locals ≤ R.locals) ∧ cells + mc ≤ R.cells ∧ slots + ms ≤ R.slots)
    {ci : Nat} {fs : List Value} {q : vw_C} (hat : va_at g.1 cl0 (b, .inr (ci, fs)) H) (hci : cl0[ci]? = some q) (hq : q.1 = C)
    (hG : G H) (hs : s.heap.size ≤ H.size) (hF : ∀ q, F' q → F q) (hlo : lok F s.heap.size locs) (hn : As.length = n) (hls : ls.size = nl) (hst : st0 = As.reverse ++ .ref b :: rest) (hrest : (rest.map fun v => v.category).sum ≤ 8) (hdg : decode cy pc = .ok (.invokevirtual idx, 3))
    (kk : ∀ (v : Option Value) (H1 : Heap) (locs1 : List Loc), hxf F' H H1 → lok F s.heap.size locs1 → post v H1 → W p l e R s m args below meth c H1 locs1 (cells + mc) (slots + ms) Q (F0 m (pc + 3) ls (v.toList ++ rest))) : W p l e R s m args below meth c H locs cells slots Q (F0 m pc ls st0) := by
  obtain ⟨hx, hb, hml, hown, hts, -, -, hK, -⟩ := X
  obtain ⟨h1, h2, h3, h4, h5⟩ := hw
  obtain ⟨r1, r2, r3, r4⟩ := hrm
  subst hq
  exact f_call (a := (Value.ref b :: As).toArray) (W.runV (C := q.1) (n := n) ⟨hx, hb, hml, hown, hts⟩ (hM H.size) (cwV n hts (tb_GV h1 h2 h3 h4 h5) rfl r1 r2 hd r3) ⟨pPc_blind, va_recv (q0 := 0) hK (PP.one hat) hci rfl, fun U hU hW => ⟨rfl, by rw [hU], by rw [hU]; exact hG, va_K.moved hW.alike hK⟩⟩ rfl hn hls hst (lv_room hrest) hdg r4) hs hF hlo kk
/-- a field that is not final -/
theorem f_put (X : CX p s m args meth c y cy nl ret g) {T : u_T} {N ci idx a : Nat} (ty0 : Nat → FieldType) (hty : ∀ k, k < N → parseFieldDescriptor (T k).2.2.1 = some (ty0 k)) (hnm : ∀ a, a < N → ∀ b, b < N → a ≠ b → (T a).2.1 ≠ (T b).2.1) {ref C : String} (hin : ∀ w ∈ u_ws C T N, w ∈ tb) {fs : List Value} (hat : va_at g.1 cl0 (a, .inr (ci, fs)) H) (hc : cl0[ci]? = some (C, T, N)) (k : Nat) (hk : k < N) (hl : Cond.fieldLink y.cls idx ref (T k).2.1 (T k).2.2.1 ∈ tb) (hsame : (T k).1 = ref) (hfin : (T k).2.2.2 = false) {v : Value} {ty : FieldType} (hd : parseFieldDescriptor (T k).2.2.1 = some ty) (hn : narrow ty v = v) (hfit : fits ty v = true) (hl2 : k < fs.length) (hFa : F a ∨ s.heap.size ≤ a) (hlo : lok F s.heap.size locs) (hdg : decode cy pc = .ok (.putfield idx, 3))
    (kk : ∀ (H1 : Heap) (locs1 : List Loc), hxa a H H1 → lok F s.heap.size locs1 → va_at g.1 cl0 (a, .inr (ci, fs.set k v)) H1 → W p l e R s m args below meth c H1 locs1 cells slots Q (F0 m (pc + 3) ls rest)) : W p l e R s m args below meth c H locs cells slots Q (F0 m pc ls (v :: .ref a :: rest)) := by
  obtain ⟨hx, hb, hml, hown, hts, -, -, hK, hnm2, -⟩ := X
  have hts' : ∀ w ∈ tb, w.before args s = true := fun w h => hts w (List.mem_cons_of_mem _ h)
  have hap := va_apart (own := y.cls) hts' hin ty0 hty hnm hK hc
  obtain ⟨r, h1, cell, q1, q2, q3, q4⟩ := hat
  have hr : r = (C, T, N) := Option.some.inj (h1.symm.trans hc)
  subst hr
  obtain ⟨hS, hfc, kC, hkC, hkind⟩ := hK.1 ci _ hc
  obtain ⟨cf, kf, fi, f, hi, hsl⟩ := hS k hk
  have hlay := hts' _ (hin _ (u_in_lay hk))
  unfold u_lay at hlay
  rw [if_neg (by rw [hfin]; decide)] at hlay
  have hst := (u_facts hfc hkC (u_lays hts' hin hk) hi).1
  have h6 := u_store hfc hkC hkind hlay hi hd hn hfit
  refine W.putK hx hb (f := f) ⟨hown, hts' _ hl, ⟨cf, kf, fi, by rw [← hsame]; exact hi⟩, hst⟩ (by rw [q2]; exact h6) q1 q3 (by rw [hsl]; exact k2_hasslot (q4 k hk)) rfl rfl hdg fun H' e1 e2 e3 => ?_
  rw [hsl] at e1 ⊢
  exact kk H' _ ⟨Nat.le_of_eq e2.symm, fun q _ h2 => e3 q h2⟩ (fun q hq => by
    rcases List.mem_append.mp hq with h | h
    · exact hlo q h
    · rw [List.mem_singleton] at h; subst h; exact hFa) ⟨_, hc, t_OB.to (V := updV (vp_V fs) k v) ⟨_, e1, q2, q3, t_set q4 hap hk v⟩ (fun j _ => vp_updV_set hl2 v j)⟩
/-- elements -/
theorem f_lald (X : CX p s m args meth c y cy nl ret g) {a k n : Nat} {f : Nat → Int64} (hat : va_at g.1 cl0 (a, .inl (g.2.2.1, n, .inr (.inl f))) H) (hk : k < n) (hn : n < 2 ^ 31) (hdg : decode cy pc = .ok (.laload, 1))
    (kk : W p l e R s m args below meth c H locs cells slots Q (F0 m (pc + 1) ls (.long (f k) :: rest))) : W p l e R s m args below meth c H locs cells slots Q (F0 m pc ls (.int (nI k) :: .ref a :: rest)) := by
  obtain ⟨hx, hb, hml, hown, hts, -, -, hK, -⟩ := X
  refine va_lald hx hb hK (PP.one hat) 0 1 rfl rfl (vp_in_nI hk hn) hdg ?_
  rw [nI_clamp (Nat.lt_trans hk hn)]
  exact kk
theorem f_zald (X : CX p s m args meth c y cy nl ret g) {a k n : Nat} {f : Nat → Int32} (hat : va_at g.1 cl0 (a, .inl (g.2.2.2, n, .inl f)) H) (hk : k < n) (hn : n < 2 ^ 31) (hdg : decode cy pc = .ok (.baload, 1))
    (kk : W p l e R s m args below meth c H locs cells slots Q (F0 m (pc + 1) ls (.int (f k) :: rest))) : W p l e R s m args below meth c H locs cells slots Q (F0 m pc ls (.int (nI k) :: .ref a :: rest)) := by
  obtain ⟨hx, hb, hml, hown, hts, -, -, hK, -⟩ := X
  refine va_zald hx hb hK (PP.one hat) 0 2 rfl rfl (vp_in_nI hk hn) hdg ?_
  rw [nI_clamp (Nat.lt_trans hk hn)]
  exact kk
theorem one_D {A : Nat → Prop} {a : Nat × va_E} (h : A a.1) : va_D A [a] := ⟨fun i j p q hi hj _ => by
    have h1 : i < 1 := (List.getElem?_eq_some_iff.mp hi).1
    have h2 : j < 1 := (List.getElem?_eq_some_iff.mp hj).1
    omega, fun k q hq => by
    have h1 : k < 1 := (List.getElem?_eq_some_iff.mp hq).1
    rw [show k = 0 by omega] at hq
    cases hq; exact h⟩
theorem f_last (X : CX p s m args meth c y cy nl ret g) {a k n : Nat} {f : Nat → Int64} {v : Int64} (hat : va_at g.1 cl0 (a, .inl (g.2.2.1, n, .inr (.inl f))) H) (hk : k < n) (hn : n < 2 ^ 31) (hFa : F a ∨ s.heap.size ≤ a) (hlo : lok F s.heap.size locs) (hdg : decode cy pc = .ok (.lastore, 1))
    (kk : ∀ (H1 : Heap) (locs1 : List Loc), hxa a H H1 → lok F s.heap.size locs1 → va_at g.1 cl0 (a, .inl (g.2.2.1, n, .inr (.inl (vp_updL f k v)))) H1 → W p l e R s m args below meth c H1 locs1 cells slots Q (F0 m (pc + 1) ls rest)) : W p l e R s m args below meth c H locs cells slots Q (F0 m pc ls (.long v :: .int (nI k) :: .ref a :: rest)) := by
  obtain ⟨hx, hb, hml, hown, hts, -, -, hK, -⟩ := X
  have hin := vp_in_nI hk hn
  refine W.last hx hb hat ((hK.2 1 _ rfl).1 n (fun j => .long (f j))) (fun q => by cases q) (by show ¬ (nI k < 0 ∨ (arrV _ _ _).slots.size ≤ _); rw [arrV_size]; exact hin) rfl rfl hdg fun H1 e z oq => ?_
  refine kk H1 _ ⟨Nat.le_of_eq z.symm, fun q _ h2 => oq q h2⟩ (fun q hq => by
    rcases List.mem_append.mp hq with h | h
    · exact hlo q h
    · rw [List.mem_singleton] at h; subst h; exact hFa) ?_
  show H1[a]? = some (vp_cell _ _)
  rw [e]
  rw [vp_cell_l, vp_cell_l, arrV_store, nI_clamp (Nat.lt_trans hk hn)]
  congr 2
  funext q
  by_cases hq : q = k
  · subst hq; simp [updV, vp_updL]
  · simp [updV, vp_updL, hq]
theorem f_zast (X : CX p s m args meth c y cy nl ret g) {a k n : Nat} {f : Nat → Int32} {v : Bool} (hat : va_at g.1 cl0 (a, .inl (g.2.2.2, n, .inl f)) H) (hk : k < n) (hn : n < 2 ^ 31) (hFa : F a ∨ s.heap.size ≤ a) (hlo : lok F s.heap.size locs) (hdg : decode cy pc = .ok (.bastore, 1))
    (kk : ∀ (H1 : Heap) (locs1 : List Loc), hxa a H H1 → lok F s.heap.size locs1 → va_at g.1 cl0 (a, .inl (g.2.2.2, n, .inl (upd f k (bI v)))) H1 → W p l e R s m args below meth c H1 locs1 cells slots Q (F0 m (pc + 1) ls rest)) : W p l e R s m args below meth c H locs cells slots Q (F0 m pc ls (.int (bI v) :: .int (nI k) :: .ref a :: rest)) := by
  obtain ⟨hx, hb, hml, hown, hts, -, -, hK, -⟩ := X
  have hin := vp_in_nI hk hn
  refine W.zast hx hb hat ((hK.2 2 _ rfl).1 n (fun j => .int (f j))) (fun q => by cases q) (by show ¬ (nI k < 0 ∨ (arrV _ _ _).slots.size ≤ _); rw [arrV_size]; exact hin) rfl rfl hdg fun H1 e z oq => ?_
  refine kk H1 _ ⟨Nat.le_of_eq z.symm, fun q _ h2 => oq q h2⟩ (fun q hq => by
    rcases List.mem_append.mp hq with h | h
    · exact hlo q h
    · rw [List.mem_singleton] at h; subst h; exact hFa) ?_
  show H1[a]? = some (vp_cell _ _)
  rw [e]
  rw [vp_cell_i, vp_cell_i, arrV_store, nI_clamp (Nat.lt_trans hk hn)]
  congr 2
  funext q
  by_cases hq : q = k
  · subst hq
    have : narrow .boolean (.int (bI v)) = .int (bI v) := by cases v <;> decide
    simp [updV, upd, this]
  · simp [updV, upd, hq]
theorem f_astq (X : CX p s m args meth c y cy nl ret g) {a k n v : Nat} {f : Nat → Option Nat} {fs : List Value} (hat : va_at g.1 cl0 (a, .inl (g.2.1, n, .inr (.inr (.inr (.inr f))))) H) (hv : va_at g.1 cl0 (v, .inr (0, fs)) H) (hk : k < n) (hn : n < 2 ^ 31) (hFa : F a ∨ s.heap.size ≤ a) (hlo : lok F s.heap.size locs) (hdg : decode cy pc = .ok (.aastore, 1))
    (kk : ∀ (H1 : Heap) (locs1 : List Loc), hxa a H H1 → lok F s.heap.size locs1 → va_at g.1 cl0 (a, .inl (g.2.1, n, .inr (.inr (.inr (.inr (va_up f k (some v))))))) H1 → W p l e R s m args below meth c H1 locs1 cells slots Q (F0 m (pc + 1) ls rest)) : W p l e R s m args below meth c H locs cells slots Q (F0 m pc ls (.ref v :: .int (nI k) :: .ref a :: rest)) := by
  obtain ⟨hx, hb, hml, hown, hts, -, -, hK, -⟩ := X
  have h0 : ¬ nI k < 0 := nI_pos (Nat.lt_trans hk hn)
  have hlt : (nI k).toNatClampNeg < n := by rw [nI_clamp (Nat.lt_trans hk hn)]; exact hk
  obtain ⟨r', hr', cellV, g1, g2, g3, -⟩ := hv
  have hcls := (hK.1 0 _ rfl).2
  obtain ⟨kA, comp, k1, k2, k3, -⟩ := (hK.2 0 _ rfl).2
  have hcomp : comp = g.1.1 0 := Option.some.inj (k3.symm.trans hcls.1)
  subst hcomp
  obtain ⟨kC, hkC, -⟩ := hcls.2
  refine W.aast hx hb hat (fun q h => by cases h) (fun h => by cases h) k1 k2 rfl hkC ⟨h0, by show _ < (arrV _ _ _).slots.size; rw [arrV_size]; exact hlt⟩ g1 (fun q h => by rw [g3] at h; cases h) (by rw [g2]; exact hkC) (by rw [g2]; exact va_assign hcls) rfl rfl hdg fun H1 e z oq => ?_
  refine kk H1 _ ⟨Nat.le_of_eq z.symm, fun q _ h2 => oq q h2⟩ (fun q hq => by
    rcases List.mem_append.mp hq with h | h
    · exact hlo q h
    · rw [List.mem_singleton] at h; subst h; exact hFa) ?_
  show H1[a]? = some (vp_cell _ _)
  rw [e]
  rw [vp_cell_q, vp_cell_q, arrV_store, nI_clamp (Nat.lt_trans hk hn)]
  congr 2
  funext q
  by_cases hq : q = k
  · subst hq; simp [updV, va_up, va_rf]
  · simp [updV, va_up, hq]
/-- new arrays -/
theorem f_newl (X : CX p s m args meth c y cy nl ret g) (hw : Cond.arrayClass .long ∈ tb) {n : Nat} (hn : n ≤ 4) (hR : cells + 1 ≤ R.cells ∧ slots + n ≤ R.slots) (hdg : decode cy pc = .ok (.newarray .long, 2))
    (kk : ∀ (q : Nat) (H1 : Heap), q = H.size → H1.size = H.size + 1 → hxt H H1 → va_at g.1 cl0 (q, .inl (g.2.2.1, n, .inr (.inl (fun _ => 0)))) H1 → W p l e R s m args below meth c H1 locs (cells + 1) (slots + n) Q (F0 m (pc + 2) ls (.ref q :: rest))) : W p l e R s m args below meth c H locs cells slots Q (F0 m pc ls (.int (nI n) :: rest)) := by
  obtain ⟨hx, hb, hml, hown, hts, -, -, hK, -⟩ := X
  refine va_newaK (atype := .long) hx hb (hts _ (List.mem_cons_of_mem _ hw)) rfl hdg rfl (nI_pos (by omega)) (nI_clamp (by omega)) (show n * 8 ≤ 536870912 by omega) hR.1 hR.2 rfl fun H1 cA e1 z1 o1 hAr hNm => ?_
  have hcA : cA = g.2.2.1 := Option.some.inj (hNm.symm.trans (hK.2 1 _ rfl).2)
  subst hcA
  refine kk H.size H1 rfl z1 ⟨by omega, o1⟩ ?_
  show H1[H.size]? = some (vp_cell _ _)
  rw [vp_cell_l]
  exact e1
theorem f_newz (X : CX p s m args meth c y cy nl ret g) (hw : Cond.arrayClass .boolean ∈ tb) {n : Nat} (hn : n ≤ 4) (hR : cells + 1 ≤ R.cells ∧ slots + n ≤ R.slots) (hdg : decode cy pc = .ok (.newarray .boolean, 2))
    (kk : ∀ (q : Nat) (H1 : Heap), q = H.size → H1.size = H.size + 1 → hxt H H1 → va_at g.1 cl0 (q, .inl (g.2.2.2, n, .inl (fun _ => 0))) H1 → W p l e R s m args below meth c H1 locs (cells + 1) (slots + n) Q (F0 m (pc + 2) ls (.ref q :: rest))) : W p l e R s m args below meth c H locs cells slots Q (F0 m pc ls (.int (nI n) :: rest)) := by
  obtain ⟨hx, hb, hml, hown, hts, -, -, hK, -⟩ := X
  refine va_newaK (atype := .boolean) hx hb (hts _ (List.mem_cons_of_mem _ hw)) rfl hdg rfl (nI_pos (by omega)) (nI_clamp (by omega)) (show n * 1 ≤ 536870912 by omega) hR.1 hR.2 rfl fun H1 cA e1 z1 o1 hAr hNm => ?_
  have hcA : cA = g.2.2.2 := Option.some.inj (hNm.symm.trans (hK.2 2 _ rfl).2)
  subst hcA
  refine kk H.size H1 rfl z1 ⟨by omega, o1⟩ ?_
  show H1[H.size]? = some (vp_cell _ _)
  rw [vp_cell_i]
  exact e1
theorem f_newq (X : CX p s m args meth c y cy nl ret g) {idx : Nat} (hw : Cond.classLink y.cls idx RX0 ∈ tb) (hover : va_AO RX0 s) {n : Nat} (hn : n ≤ 4) (hR : cells + 1 ≤ R.cells ∧ slots + n ≤ R.slots) (hdg : decode cy pc = .ok (.anewarray idx, 3))
    (kk : ∀ (q : Nat) (H1 : Heap), q = H.size → H1.size = H.size + 1 → hxt H H1 → va_at g.1 cl0 (q, .inl (g.2.1, n, .inr (.inr (.inr (.inr (fun _ => none)))))) H1 → W p l e R s m args below meth c H1 locs (cells + 1) (slots + n) Q (F0 m (pc + 3) ls (.ref q :: rest))) : W p l e R s m args below meth c H locs cells slots Q (F0 m pc ls (.int (nI n) :: rest)) := by
  obtain ⟨hx, hb, hml, hown, hts, -, -, hK, -⟩ := X
  have hN : (nI n).toNatClampNeg = n := nI_clamp (by omega)
  refine W.anew hx hb hown (hts _ (List.mem_cons_of_mem _ hw)) (va_AO.use hover) rfl hdg rfl (nI_pos (by omega)) (show (nI n).toNatClampNeg * 4 ≤ 536870912 by rw [hN]; omega) hR.1 (by rw [hN]; exact hR.2) fun cA kA comp f1 f2 f3 f4 => ?_
  have hcA : cA = g.2.1 := by
    obtain ⟨kA', comp', k1, k2, k3, k4⟩ := (hK.2 0 _ rfl).2
    exact Option.some.inj (f1.symm.trans k4)
  subst hcA
  rw [hN]
  generalize hH1 : H.push ({ cls := g.2.1, slots := Array.replicate n .null, vm := .none } : Jvm.Cell) = H1
  have z1 : H1.size = H.size + 1 := by rw [← hH1, Array.size_push]
  have e1 : H1[H.size]? = some (arrV g.2.1 n (fun _ => .null)) := by rw [← hH1, Array.getElem?_push_size, ← arrV_new]
  have o1 : ∀ q : Nat, q < H.size → H1[q]? = H[q]? := fun q hq => by rw [← hH1, Array.getElem?_push, if_neg (Nat.ne_of_lt hq)]
  refine kk H.size H1 rfl z1 ⟨by omega, o1⟩ ?_
  show H1[H.size]? = some (vp_cell _ _)
  rw [vp_cell_q]
  exact e1
/-- ends -/
theorem f_lret (X : CX p s m args meth c y cy nl (some .long) g) {v : Int64} (hxx : hxf F s.heap H) (hlo : lok F s.heap.size locs) (hp : post (some (.long v)) H) (hc : cells ≤ mc ∧ slots ≤ ms) (hdg : decode cy pc = .ok (.lreturn, 1)) :
    W p l e R s m args below meth c H locs cells slots (MQ below (fQ F post) args s mc ms (fun q => F q ∨ s.heap.size ≤ q)) (F0 m pc ls [.long v]) := by
  obtain ⟨hx, hb, hml, hown, hts, hr, hlocks, hK, -⟩ := X
  refine W.widen hc.1 hc.2 ?_
  exact W.lret (v := v) hx hb hr (fun t ht hW => ⟨_, rfl, by rw [ht]; exact hxx, by rw [ht]; exact hp⟩) (fun q h => hlo q h) hdg hlocks
theorem f_iret (X : CX p s m args meth c y cy nl (some .int) g) {v : Int32} (hxx : hxf F s.heap H) (hlo : lok F s.heap.size locs) (hp : post (some (.int v)) H) (hc : cells ≤ mc ∧ slots ≤ ms) (hdg : decode cy pc = .ok (.ireturn, 1)) :
    W p l e R s m args below meth c H locs cells slots (MQ below (fQ F post) args s mc ms (fun q => F q ∨ s.heap.size ≤ q)) (F0 m pc ls [.int v]) := by
  obtain ⟨hx, hb, hml, hown, hts, hr, hlocks, hK, -⟩ := X
  refine W.widen hc.1 hc.2 ?_
  exact W.iret (v := v) hx hb hr (fun t ht hW => ⟨_, rfl, by rw [ht]; exact hxx, by rw [ht]; exact hp⟩) (fun q h => hlo q h) hdg hlocks
theorem f_zret (X : CX p s m args meth c y cy nl (some .boolean) g) {v : Bool} (hxx : hxf F s.heap H) (hlo : lok F s.heap.size locs) (hp : post (some (.int (bI v))) H) (hc : cells ≤ mc ∧ slots ≤ ms) (hdg : decode cy pc = .ok (.ireturn, 1)) :
    W p l e R s m args below meth c H locs cells slots (MQ below (fQ F post) args s mc ms (fun q => F q ∨ s.heap.size ≤ q)) (F0 m pc ls [.int (bI v)]) := by
  obtain ⟨hx, hb, hml, hown, hts, hr, hlocks, hK, -⟩ := X
  refine W.widen hc.1 hc.2 ?_
  exact W.zret (v := bI v) hx hb hr (by cases v <;> decide) (fun t ht hW => ⟨_, rfl, by rw [ht]; exact hxx, by rw [ht]; exact hp⟩) (fun q h => hlo q h) hdg hlocks
theorem f_vret (X : CX p s m args meth c y cy nl none g) (hxx : hxf F s.heap H) (hlo : lok F s.heap.size locs) (hp : post none H) (hc : cells ≤ mc ∧ slots ≤ ms) (hdg : decode cy pc = .ok (.return_, 1)) :
    W p l e R s m args below meth c H locs cells slots (MQ below (fQ F post) args s mc ms (fun q => F q ∨ s.heap.size ≤ q)) (F0 m pc ls []) := by
  obtain ⟨hx, hb, hml, hown, hts, hr, hlocks, hK, -⟩ := X
  refine W.widen hc.1 hc.2 ?_
  exact W.vret hx hb hr (fun t ht hW => ⟨_, rfl, by rw [ht]; exact hxx, by rw [ht]; exact hp⟩) (fun q h => hlo q h) hdg hlocks
end FW
end
section
section FW2
variable {p : Program} {l : Launch} {e : Env} {R : Room} {s : State} {m : MethodId} {args : Array Value} {below : List Frame} {meth : Method} {c : Code} {H : Heap} {locs : List Loc} {cells slots : Nat} {Q : State → Prop} {pc : Nat} {ls : Array Slot} {rest st0 : List Value} {g : En}
variable {y y' : MethodName} {cy cy' : ByteArray} {nl nl' : Nat} {ret ret' : Option FieldType}
variable {mc ms n idx : Nat} {rm : Room} {G : Heap → Prop} {b : Nat} {As : List Value} {C : String} {F F' : Nat → Prop}
theorem f_putF (X : CX p s m args meth c y cy nl ret g) {T : u_T} {N ci idx a : Nat} (ty0 : Nat → FieldType) (hty : ∀ k, k < N → parseFieldDescriptor (T k).2.2.1 = some (ty0 k)) (hnm : ∀ a, a < N → ∀ b, b < N → a ≠ b → (T a).2.1 ≠ (T b).2.1) (hin : ∀ w ∈ u_ws y.cls T N, w ∈ tb) {fs : List Value} (hat : va_at g.1 cl0 (a, .inr (ci, fs)) H) (hc : cl0[ci]? = some (y.cls, T, N)) (k : Nat) (hk : k < N) (hl : Cond.fieldLink y.cls idx y.cls (T k).2.1 (T k).2.2.1 ∈ tb) (hsame : (T k).1 = y.cls) (hfin : (T k).2.2.2 = true) (hi0 : y.name = "<init>") {v : Value} {ty : FieldType} (hd : parseFieldDescriptor (T k).2.2.1 = some ty) (hn : narrow ty v = v) (hfit : fits ty v = true) (hl2 : k < fs.length) (hFa : F a ∨ s.heap.size ≤ a) (hlo : lok F s.heap.size locs) (hdg : decode cy pc = .ok (.putfield idx, 3))
    (kk : ∀ (H1 : Heap) (locs1 : List Loc), hxa a H H1 → lok F s.heap.size locs1 → va_at g.1 cl0 (a, .inr (ci, fs.set k v)) H1 → W p l e R s m args below meth c H1 locs1 cells slots Q (F0 m (pc + 3) ls rest)) : W p l e R s m args below meth c H locs cells slots Q (F0 m pc ls (v :: .ref a :: rest)) := by
  obtain ⟨hx, hb, hml, hown, hts, -, -, hK, hnm2, -⟩ := X
  have hts' : ∀ w ∈ tb, w.before args s = true := fun w h => hts w (List.mem_cons_of_mem _ h)
  have hap := va_apart (own := y.cls) hts' hin ty0 hty hnm hK hc
  obtain ⟨r, h1, cell, q1, q2, q3, q4⟩ := hat
  have hr : r = (y.cls, T, N) := Option.some.inj (h1.symm.trans hc)
  subst hr
  obtain ⟨hS, hfc, kC, hkC, hkind⟩ := hK.1 ci _ hc
  obtain ⟨cf, kf, fi, f, hi, hsl⟩ := hS k hk
  have hlay := hts' _ (hin _ (u_in_lay hk))
  unfold u_lay at hlay
  rw [if_pos hfin] at hlay
  have hst := (u_facts hfc hkC (u_lays hts' hin hk) hi).1
  have hcf : m.cls = cf := by
    obtain ⟨_, _, c', _, _, _, -, -, hf', -, -, -, hown2, -⟩ := Cond.laysFinal_spec hlay
    have e1 : c' = cf := by have := hi.symm.trans hf'; simp at this; exact this.1.symm
    rw [hsame] at hown2
    rw [← e1]; exact Option.some.inj (hown.symm.trans hown2)
  have h6 := u_fits hfc hkC hkind (Or.inr hlay) hi hd hn hfit
  refine W.putFinK hx hb hown (hts' _ hl) (by rw [hsame] at hi; exact hi) hst hcf (hnm2 hi0) (by rw [q2]; exact h6) q1 q3 (by rw [hsl]; exact k2_hasslot (q4 k hk)) rfl rfl hdg fun H' e1 e2 e3 => ?_
  rw [hsl] at e1 ⊢
  exact kk H' _ ⟨Nat.le_of_eq e2.symm, fun q _ h2 => e3 q h2⟩ (fun q hq => by
    rcases List.mem_append.mp hq with h | h
    · exact hlo q h
    · rw [List.mem_singleton] at h; subst h; exact hFa) ⟨_, hc, t_OB.to (V := updV (vp_V fs) k v) ⟨_, e1, q2, q3, t_set q4 hap hk v⟩ (fun j _ => vp_updV_set hl2 v j)⟩
theorem f_ivret {post : Heap → Prop} (X : CX p s m args meth c y cy nl none g) (hxx : hxf (fun q => q = b) s.heap H) (hlo : lok (fun q => q = b) s.heap.size locs) (hp : post H) (hc : cells ≤ mc ∧ slots ≤ ms) (hdg : decode cy pc = .ok (.return_, 1)) :
    W p l e R s m args below meth c H locs cells slots (MQ below (iQ b post) args s mc ms (fun q => q = b ∨ s.heap.size ≤ q)) (F0 m pc ls []) := by
  obtain ⟨hx, hb, hml, hown, hts, hr, hlocks, hK, -⟩ := X
  refine W.widen hc.1 hc.2 ?_
  exact W.vret hx hb hr (fun t ht hW => ⟨rfl, by rw [ht]; exact hxx, by rw [ht]; exact hp⟩) (fun q h => hlo q h) hdg hlocks
end FW2
theorem hxf.trn {F : Nat → Prop} {H H1 H2 : Heap} {a : Nat} (h : hxf F H H1) (ha : H.size ≤ a) (k : hxa a H1 H2) : hxf F H H2 := ⟨Nat.le_trans h.1 k.1, fun q h1 h2 => (k.2 q (Nat.lt_of_lt_of_le h1 h.1) (by omega)).trans (h.2 q h1 h2)⟩
theorem RF.exa {g : En} {A : Nat → Nat} {q : Nat → Rat} {H H1 : Heap} {a : Nat} (h : RF g A q H) (k : hxa a H H1) (hd : ∀ j, j < 4 → A j ≠ a) : RF g A q H1 := fun i hi => (PP.exa (PP.one (h i hi)) k (fun z hz => by simp only [List.mem_cons, List.not_mem_nil, or_false] at hz; subst hz; exact hd i hi)) 0 _ rfl
theorem up_some (A : Nat → Nat) (k b : Nat) : va_up (fun j => some (A j)) k (some b) = fun j => some (va_up A k b j) := by
  funext j
  unfold va_up
  split <;> rfl
theorem va_up_s {α : Type} (f : Nat → α) (k : Nat) (v : α) : va_up f k v k = v := by simp [va_up]
theorem va_up_n {α : Type} {f : Nat → α} {k j : Nat} {v : α} (h : j ≠ k) : va_up f k v j = f j := by simp [va_up, h]
/-- the cells of the object lie apart -/
def DD (o r : Nat) (A : Nat → Nat) : Prop := o ≠ r ∧ ∀ j, j < 4 → A j ≠ r ∧ A j ≠ o
section YW
variable {p : Program} {l : Launch} {e : Env} {R : Room} {s : State} {m : MethodId} {args : Array Value} {below : List Frame} {meth : Method} {c : Code} {H : Heap} {cells slots : Nat} {pc : Nat} {ls : Array Slot} {rest st0 : List Value} {g : En}
variable {y y' : MethodName} {cy cy' : ByteArray} {nl nl' : Nat} {ret ret' : Option FieldType}
variable {mc ms n idx : Nat} {post : Option Value → Heap → Prop} {px : String → Prop} {rm : Room} {G : Heap → Prop} {b : Nat} {As : List Value} {C : String} {F : Nat → Prop} {mc' ms' : Nat} {post' : Option Value → Heap → Prop} {px' : String → Prop} {free : Addr → Prop}
theorem y_callV (X : CX p s m args meth c y cy nl ret g) (hne : ∀ x ∈ c.exceptionTable.toList, False) (hE : EX s) (hM : XM l y' cy' nl' ret' rm g (.ref b :: As) G mc ms post px)
    (hw : Cond.methodLink y.cls idx y' ∈ tb ∧ Cond.instanceMethod y' ∈ tb ∧ Cond.selects C y' y' ∈ tb ∧ Cond.initialized C ∈ tb ∧ Cond.code y' cy' nl' ret' ∈ tb)
    (hd : y'.cls = C ∧ y'.cls ≠ "java/lang/invoke/MethodHandle" ∧ y'.cls ≠ "java/lang/invoke/VarHandle" ∧ (parseMethodDescriptor y'.desc).map (fun d => d.parameters.length) = some n)
    (hrm : rm.cells = mc ∧ rm.slots = ms ∧ (rm.frames + 1 ≤ R.frames ∧ 8 + (nl' + 11) + rm.locals ≤ R.locals) ∧ cells + mc ≤ R.cells ∧ slots + ms ≤ R.slots)
    {ci : Nat} {fs : List Value} {q : vw_C} (hat : va_at g.1 cl0 (b, .inr (ci, fs)) H) (hci : cl0[ci]? = some q) (hq : q.1 = C)
    (hG : G H) (hX : hxt s.heap H) (hn : As.length = n) (hls : ls.size = nl) (hst : st0 = As.reverse ++ .ref b :: rest) (hrest : (rest.map fun v => v.category).sum ≤ 8) (hdg : decode cy pc = .ok (.invokevirtual idx, 3))
    (hpx : ∀ E, px E → px' E) (hc : cells + mc ≤ mc' ∧ slots + ms ≤ ms')
    (kk : ∀ (v : Option Value) (H1 : Heap), hxt H H1 → post v H1 → W p l e R s m args below meth c H1 [] (cells + mc) (slots + ms) (vx_MQ below (fQ F post') (xQ px') args s mc' ms' free) (F0 m (pc + 3) ls (v.toList ++ rest))) : W p l e R s m args below meth c H [] cells slots (vx_MQ below (fQ F post') (xQ px') args s mc' ms' free) (F0 m pc ls st0) := by
  have X' := X
  obtain ⟨hx, hb, hml, hown, hts, -, -, hK, -⟩ := X
  obtain ⟨h1, h2, h3, h4, h5⟩ := hw
  obtain ⟨r1, r2, r3, r4⟩ := hrm
  subst hq
  exact x_call (a := (Value.ref b :: As).toArray) (vx_runV (C := q.1) (n := n) ⟨hx, hb, hml, hown, hts⟩ (hM H.size) (cwV n hts (tb_GV h1 h2 h3 h4 h5) rfl r1 r2 hd r3) ⟨xPc_blind, va_recv (q0 := 0) hK (PP.one hat) hci rfl, fun U hU hW => ⟨rfl, by rw [hU], by rw [hU]; exact hG, va_K.moved hW.alike hK, hE.at hW (by rw [hU]; exact hX)⟩⟩ rfl hn hls hst (lv_room hrest) hdg r4) hX.1 (fun E ce q9 H1 k1 k2 k3 k4 k5 => vx_out (fun x hx => (hne x hx).elim) X'.2.2.2.2.2.2.1 k3 k4 k5 (fun t ht _ => ⟨by rw [ht]; exact hX.tr k1, hpx E k2⟩) (fun z h => nomatch h) hc.1 hc.2) kk
theorem y_callS (X : CX p s m args meth c y cy nl ret g) (hne : ∀ x ∈ c.exceptionTable.toList, False) (hE : EX s) (hM : XM l y' cy' nl' ret' rm g As G mc ms post px)
    (hw : Cond.methodLink y.cls idx y' ∈ tb ∧ Cond.static y' ∈ tb ∧ Cond.initialized y.cls ∈ tb ∧ Cond.code y' cy' nl' ret' ∈ tb)
    (hd : y'.cls = y.cls ∧ y'.cls ≠ "java/lang/invoke/MethodHandle" ∧ y'.cls ≠ "java/lang/invoke/VarHandle" ∧ (parseMethodDescriptor y'.desc).map (fun d => d.parameters.length) = some n)
    (hrm : rm.cells = mc ∧ rm.slots = ms ∧ (rm.frames + 1 ≤ R.frames ∧ 8 + (nl' + 11) + rm.locals ≤ R.locals) ∧ cells + mc ≤ R.cells ∧ slots + ms ≤ R.slots)
    (hG : G H) (hX : hxt s.heap H) (hn : As.length = n) (hls : ls.size = nl) (hst : st0 = As.reverse ++ rest) (hrest : (rest.map fun v => v.category).sum ≤ 8) (hdg : decode cy pc = .ok (.invokestatic idx, 3))
    (hpx : ∀ E, px E → px' E) (hc : cells + mc ≤ mc' ∧ slots + ms ≤ ms')
    (kk : ∀ (v : Option Value) (H1 : Heap), hxt H H1 → post v H1 → W p l e R s m args below meth c H1 [] (cells + mc) (slots + ms) (vx_MQ below (fQ F post') (xQ px') args s mc' ms' free) (F0 m (pc + 3) ls (v.toList ++ rest))) : W p l e R s m args below meth c H [] cells slots (vx_MQ below (fQ F post') (xQ px') args s mc' ms' free) (F0 m pc ls st0) := by
  have X' := X
  obtain ⟨hx, hb, hml, hown, hts, -, -, hK, -⟩ := X
  obtain ⟨h1, h2, h4, h5⟩ := hw
  obtain ⟨r1, r2, r3, r4⟩ := hrm
  exact x_call (a := As.toArray) (vx_runS (n := n) ⟨hx, hb, hml, hown, hts⟩ (hM H.size) (cwS n hts (tb_GS h1 h2 h4 h5) rfl r1 r2 hd r3) ⟨xPc_blind, fun U hU hW => ⟨rfl, by rw [hU], by rw [hU]; exact hG, va_K.moved hW.alike hK, hE.at hW (by rw [hU]; exact hX)⟩⟩ rfl hn hls hst (lv_room hrest) hdg r4) hX.1 (fun E ce q9 H1 k1 k2 k3 k4 k5 => vx_out (fun x hx => (hne x hx).elim) X'.2.2.2.2.2.2.1 k3 k4 k5 (fun t ht _ => ⟨by rw [ht]; exact hX.tr k1, hpx E k2⟩) (fun z h => nomatch h) hc.1 hc.2) kk
end YW
set_option maxHeartbeats 4000000 in
set_option maxRecDepth 100000 in
theorem c_X1_outline (l : Launch) (g : En) (o r : Nat) (A : Nat → Nat) (x1 y1 : Nat) (q : Nat → Rat) (v0 w0 : Int64) (hl0 : l.stackTraces = false) (hO : OK x1 y1 q) (hD : DD o r A) : YM l yX1_outline cX1_outline 6 (some FieldType.boolean) { frames := 7, cells := 2, slots := 12, locals := 107 } g [.ref o, .long v0, .long w0] (fun H => RP g o r A x1 y1 q H) (fun q => q = o) 2 12 (fun v H => (inL v0 1 2000 = true ∧ inL w0 1 2000 = true) ∧ v = some (.int (bI (!(decide (toL v0 = x1) && decide (toL w0 = y1))))) ∧ RP g o r A (toL v0) (toL w0) q H) (xk true true (inL v0 1 2000 && inL w0 1 2000)) := by
  refine YM.of (by decide) (Nat.le_of_ble_eq_true rfl) (fun p e s m below meth c ls X hne hE hG hl => ?_)
  obtain ⟨hP, hF⟩ := hG
  have hX2 := hO.1.2
  have hY2 := hO.2.1.2
  have hl : lv_has ls 6 [(0, .ref o), (1, .long v0), (3, .long w0)] := hl
  have hX : hxf (fun q => q = o) s.heap s.heap := hxf.rf
  have hlo : lok (fun q => q = o) s.heap.size ([] : List Loc) := lok.nil
  have hP : PP g [ob o x1 y1 r, ar g r A] s.heap := hP
  have hX : hxt s.heap s.heap := hxt.rf
  refine lv_lload_n X.1 X.2.1 dX1_outline_0 rfl (lv_at hl 1 rfl) ?_
  refine lv_lconst (v := lN 1) X.1 X.2.1 dX1_outline_1 (by decide) ?_
  refine lv_ldc2 (v := 2000) X.1 X.2.1 X.2.2.2.1 (X.2.2.2.2.1 _ (List.mem_cons_of_mem _ mw_95)) dX1_outline_2 ?_
  refine w_l (v' := lN 2000) (by decide) ?_
  refine y_callS (F := fun q => q = o) (As := [.long v0, .long (lN 1), .long (lN 2000)]) (rest := []) X hne hE (c_X1_checkNumber l g v0 1 2000 hl0 (by decide) (by decide)) ⟨mw_96, mw_97, mw_38, mw_98⟩ sgX1_checkNumber ⟨rfl, rfl, ⟨by decide, by decide⟩, by decide, by decide⟩ trivial hX rfl hl.1 rfl (Nat.le_of_ble_eq_true rfl) dX1_outline_5 (fun E h => xk_G rfl rfl (fun h9 => by rw [h9]; rfl) h) ⟨by decide, by decide⟩ (fun v H1 hk2 hp => ?_)
  obtain ⟨rfl, ha⟩ := hp
  have hX := hX.tr hk2
  have hP := PP.ext hP hk2
  have hF := RF.ext hF hk2
  refine W.eq (g2 := F0 m 8 ls []) rfl ?_
  refine lv_lload_n X.1 X.2.1 dX1_outline_8 rfl (lv_at hl 2 rfl) ?_
  refine lv_lconst (v := lN 1) X.1 X.2.1 dX1_outline_9 (by decide) ?_
  refine lv_ldc2 (v := 2000) X.1 X.2.1 X.2.2.2.1 (X.2.2.2.2.1 _ (List.mem_cons_of_mem _ mw_95)) dX1_outline_10 ?_
  refine w_l (v' := lN 2000) (by decide) ?_
  refine y_callS (F := fun q => q = o) (As := [.long w0, .long (lN 1), .long (lN 2000)]) (rest := []) X hne hE (c_X1_checkNumber l g w0 1 2000 hl0 (by decide) (by decide)) ⟨mw_96, mw_97, mw_38, mw_98⟩ sgX1_checkNumber ⟨rfl, rfl, ⟨by decide, by decide⟩, by decide, by decide⟩ trivial hX rfl hl.1 rfl (Nat.le_of_ble_eq_true rfl) dX1_outline_13 (fun E h => xk_G rfl rfl (fun h9 => by rw [h9, ha]; rfl) h) ⟨by decide, by decide⟩ (fun v H3 hk4 hp => ?_)
  obtain ⟨rfl, hb⟩ := hp
  have hX := hX.tr hk4
  have hP := PP.ext hP hk4
  have hF := RF.ext hF hk4
  refine W.eq (g2 := F0 m 16 ls []) rfl ?_
  obtain ⟨x, hx1, hx2, rfl⟩ := inL_of ha (by decide)
  obtain ⟨y, hy1, hy2, rfl⟩ := inL_of hb (by decide)
  have ex : toL (lN x) = x := toL_k (by omega)
  have ey : toL (lN y) = y := toL_k (by omega)
  refine lv_lload_n X.1 X.2.1 dX1_outline_16 rfl (lv_at hl 1 rfl) ?_
  refine lv_aload_n X.1 X.2.1 dX1_outline_17 rfl (lv_at hl 0 rfl) ?_
  refine p_get (T := TX1) X uX1 (hP.at 0 rfl) rfl 0 (by decide) mw_77 rfl rfl dX1_outline_18 ?_
  refine q_Nne X (by omega) (by omega) (tgt := 34) dX1_outline_21 dX1_outline_22 (by decide) (fun hB5 => ?_) (fun hB5 => ?_)
  ·
    refine lv_iconst (v := nI 1) X.1 X.2.1 dX1_outline_34 (by decide) ?_
    refine lv_goto (tgt := 39) X.1 X.2.1 dX1_outline_35 (by decide) ?_
    refine lv_istore (lv' := [(5, .int (nI 1)), (0, .ref o), (1, .long (lN x)), (3, .long (lN y))]) X.1 X.2.1 dX1_outline_39 hl (by decide) rfl (fun ls hl => ?_)
    have hX := hxf.of (F := fun q => q = o) hX
    refine lv_aload_n X.1 X.2.1 dX1_outline_41 rfl (lv_at hl 1 rfl) ?_
    refine lv_lload_n X.1 X.2.1 dX1_outline_42 rfl (lv_at hl 2 rfl) ?_
    refine f_put (F := fun q => q = o) (T := TX1) (N := 3) (ci := 1) X tyX1 tyX1_ok nmX1 uX1 (hP.at 0 rfl) rfl 0 (by decide) mw_77 rfl rfl (v := .long (lN x)) (ty := .long) (by decide +kernel) rfl rfl (Nat.le_of_ble_eq_true rfl) (Or.inl rfl) hlo dX1_outline_43 (fun H6 locs hpa hlo hat => ?_)
    have hX := hX.tra (rfl) hpa
    have hP := PP.cons hat (PP.exa (hP.sub [1] rfl : PP g [ar g r A] _) hpa (fun z hz => by simp only [List.mem_cons, List.not_mem_nil, or_false] at hz; subst hz; first | exact hD.1.symm))
    have hP : PP g [(o, .inr (1, [.long (lN x), .long (lN y1), .ref r])), ar g r A] H6 := hP
    have hF := RF.exa hF hpa (fun j hj => (hD.2 j hj).2)
    refine lv_aload_n X.1 X.2.1 dX1_outline_46 rfl (lv_at hl 1 rfl) ?_
    refine lv_lload_n X.1 X.2.1 dX1_outline_47 rfl (lv_at hl 3 rfl) ?_
    refine f_put (F := fun q => q = o) (T := TX1) (N := 3) (ci := 1) X tyX1 tyX1_ok nmX1 uX1 (hP.at 0 rfl) rfl 1 (by decide) mw_78 rfl rfl (v := .long (lN y)) (ty := .long) (by decide +kernel) rfl rfl (Nat.le_of_ble_eq_true rfl) (Or.inl rfl) hlo dX1_outline_48 (fun H7 locs hpa hlo hat => ?_)
    have hX := hX.tra (rfl) hpa
    have hP := PP.cons hat (PP.exa (hP.sub [1] rfl : PP g [ar g r A] _) hpa (fun z hz => by simp only [List.mem_cons, List.not_mem_nil, or_false] at hz; subst hz; first | exact hD.1.symm))
    have hP : PP g [(o, .inr (1, [.long (lN x), .long (lN y), .ref r])), ar g r A] H7 := hP
    have hF := RF.exa hF hpa (fun j hj => (hD.2 j hj).2)
    refine lv_iload X.1 X.2.1 dX1_outline_51 (lv_at hl 0 rfl) ?_
    refine w_i (v' := bI true) (by decide) ?_
    exact vx_ret (f_zret (v := true) X hX hlo (⟨⟨ha, hb⟩, by simp only [ex, ey]; rw [decide_eq_false hB5]; rfl, by simp only [ex, ey]; exact ⟨hP.sub [0, 1] rfl, hF⟩⟩) ⟨by decide, by decide⟩ dX1_outline_53)
  ·
    refine lv_lload_n X.1 X.2.1 dX1_outline_25 rfl (lv_at hl 2 rfl) ?_
    refine lv_aload_n X.1 X.2.1 dX1_outline_26 rfl (lv_at hl 0 rfl) ?_
    refine p_get (T := TX1) X uX1 (hP.at 0 rfl) rfl 1 (by decide) mw_78 rfl rfl dX1_outline_27 ?_
    refine q_Neq X (by omega) (by omega) (tgt := 38) dX1_outline_30 dX1_outline_31 (by decide) (fun hB8 => ?_) (fun hB8 => ?_)
    ·
      refine lv_iconst (v := nI 0) X.1 X.2.1 dX1_outline_38 (by decide) ?_
      refine lv_istore (lv' := [(5, .int (nI 0)), (0, .ref o), (1, .long (lN x)), (3, .long (lN y))]) X.1 X.2.1 dX1_outline_39 hl (by decide) rfl (fun ls hl => ?_)
      have hX := hxf.of (F := fun q => q = o) hX
      refine lv_aload_n X.1 X.2.1 dX1_outline_41 rfl (lv_at hl 1 rfl) ?_
      refine lv_lload_n X.1 X.2.1 dX1_outline_42 rfl (lv_at hl 2 rfl) ?_
      refine f_put (F := fun q => q = o) (T := TX1) (N := 3) (ci := 1) X tyX1 tyX1_ok nmX1 uX1 (hP.at 0 rfl) rfl 0 (by decide) mw_77 rfl rfl (v := .long (lN x)) (ty := .long) (by decide +kernel) rfl rfl (Nat.le_of_ble_eq_true rfl) (Or.inl rfl) hlo dX1_outline_43 (fun H9 locs hpa hlo hat => ?_)
      have hX := hX.tra (rfl) hpa
      have hP := PP.cons hat (PP.exa (hP.sub [1] rfl : PP g [ar g r A] _) hpa (fun z hz => by simp only [List.mem_cons, List.not_mem_nil, or_false] at hz; subst hz; first | exact hD.1.symm))
      have hP : PP g [(o, .inr (1, [.long (lN x), .long (lN y1), .ref r])), ar g r A] H9 := hP
      have hF := RF.exa hF hpa (fun j hj => (hD.2 j hj).2)
      refine lv_aload_n X.1 X.2.1 dX1_outline_46 rfl (lv_at hl 1 rfl) ?_
      refine lv_lload_n X.1 X.2.1 dX1_outline_47 rfl (lv_at hl 3 rfl) ?_
      refine f_put (F := fun q => q = o) (T := TX1) (N := 3) (ci := 1) X tyX1 tyX1_ok nmX1 uX1 (hP.at 0 rfl) rfl 1 (by decide) mw_78 rfl rfl (v := .long (lN y)) (ty := .long) (by decide +kernel) rfl rfl (Nat.le_of_ble_eq_true rfl) (Or.inl rfl) hlo dX1_outline_48 (fun H10 locs hpa hlo hat => ?_)
      have hX := hX.tra (rfl) hpa
      have hP := PP.cons hat (PP.exa (hP.sub [1] rfl : PP g [ar g r A] _) hpa (fun z hz => by simp only [List.mem_cons, List.not_mem_nil, or_false] at hz; subst hz; first | exact hD.1.symm))
      have hP : PP g [(o, .inr (1, [.long (lN x), .long (lN y), .ref r])), ar g r A] H10 := hP
      have hF := RF.exa hF hpa (fun j hj => (hD.2 j hj).2)
      refine lv_iload X.1 X.2.1 dX1_outline_51 (lv_at hl 0 rfl) ?_
      refine w_i (v' := bI false) (by decide) ?_
      exact vx_ret (f_zret (v := false) X hX hlo (⟨⟨ha, hb⟩, by simp only [ex, ey]; rw [decide_eq_true hB5, decide_eq_true hB8]; rfl, by simp only [ex, ey]; exact ⟨hP.sub [0, 1] rfl, hF⟩⟩) ⟨by decide, by decide⟩ dX1_outline_53)
    ·
      refine lv_iconst (v := nI 1) X.1 X.2.1 dX1_outline_34 (by decide) ?_
      refine lv_goto (tgt := 39) X.1 X.2.1 dX1_outline_35 (by decide) ?_
      refine lv_istore (lv' := [(5, .int (nI 1)), (0, .ref o), (1, .long (lN x)), (3, .long (lN y))]) X.1 X.2.1 dX1_outline_39 hl (by decide) rfl (fun ls hl => ?_)
      have hX := hxf.of (F := fun q => q = o) hX
      refine lv_aload_n X.1 X.2.1 dX1_outline_41 rfl (lv_at hl 1 rfl) ?_
      refine lv_lload_n X.1 X.2.1 dX1_outline_42 rfl (lv_at hl 2 rfl) ?_
      refine f_put (F := fun q => q = o) (T := TX1) (N := 3) (ci := 1) X tyX1 tyX1_ok nmX1 uX1 (hP.at 0 rfl) rfl 0 (by decide) mw_77 rfl rfl (v := .long (lN x)) (ty := .long) (by decide +kernel) rfl rfl (Nat.le_of_ble_eq_true rfl) (Or.inl rfl) hlo dX1_outline_43 (fun H11 locs hpa hlo hat => ?_)
      have hX := hX.tra (rfl) hpa
      have hP := PP.cons hat (PP.exa (hP.sub [1] rfl : PP g [ar g r A] _) hpa (fun z hz => by simp only [List.mem_cons, List.not_mem_nil, or_false] at hz; subst hz; first | exact hD.1.symm))
      have hP : PP g [(o, .inr (1, [.long (lN x), .long (lN y1), .ref r])), ar g r A] H11 := hP
      have hF := RF.exa hF hpa (fun j hj => (hD.2 j hj).2)
      refine lv_aload_n X.1 X.2.1 dX1_outline_46 rfl (lv_at hl 1 rfl) ?_
      refine lv_lload_n X.1 X.2.1 dX1_outline_47 rfl (lv_at hl 3 rfl) ?_
      refine f_put (F := fun q => q = o) (T := TX1) (N := 3) (ci := 1) X tyX1 tyX1_ok nmX1 uX1 (hP.at 0 rfl) rfl 1 (by decide) mw_78 rfl rfl (v := .long (lN y)) (ty := .long) (by decide +kernel) rfl rfl (Nat.le_of_ble_eq_true rfl) (Or.inl rfl) hlo dX1_outline_48 (fun H12 locs hpa hlo hat => ?_)
      have hX := hX.tra (rfl) hpa
      have hP := PP.cons hat (PP.exa (hP.sub [1] rfl : PP g [ar g r A] _) hpa (fun z hz => by simp only [List.mem_cons, List.not_mem_nil, or_false] at hz; subst hz; first | exact hD.1.symm))
      have hP : PP g [(o, .inr (1, [.long (lN x), .long (lN y), .ref r])), ar g r A] H12 := hP
      have hF := RF.exa hF hpa (fun j hj => (hD.2 j hj).2)
      refine lv_iload X.1 X.2.1 dX1_outline_51 (lv_at hl 0 rfl) ?_
      refine w_i (v' := bI true) (by decide) ?_
      exact vx_ret (f_zret (v := true) X hX hlo (⟨⟨ha, hb⟩, by simp only [ex, ey]; rw [decide_eq_true hB5, decide_eq_false hB8]; rfl, by simp only [ex, ey]; exact ⟨hP.sub [0, 1] rfl, hF⟩⟩) ⟨by decide, by decide⟩ dX1_outline_53)
set_option maxHeartbeats 4000000 in
set_option maxRecDepth 100000 in
theorem c_X1_changeRun (l : Launch) (g : En) (o r : Nat) (A : Nat → Nat) (x1 y1 : Nat) (q : Nat → Rat) (k b : Nat) (z : Rat) (hO : OK x1 y1 q) (hD : DD o r A) (hk : k < 4) (hz : bd z 20 20) (hbr : b ≠ r) : FM l yX1_changeRun cX1_changeRun 4 (some FieldType.boolean) { frames := 1, cells := 0, slots := 0, locals := 21 } g [.ref o, .int (nI k), .ref b] (fun H => RP g o r A x1 y1 q H ∧ va_at g.1 cl0 (fq b z) H) (fun q => q = r) 0 0 (fun v H => v = some (.int (bI (!decide (z = q k)))) ∧ RP g o r (va_up A k b) x1 y1 (va_up q k z) H) := by
  refine FM.of (by decide) (Nat.le_of_ble_eq_true rfl) (fun p e s m below meth c ls X hG hl => ?_)
  obtain ⟨⟨hP, hF⟩, hz0⟩ := hG
  have hP := PP.cons hz0 hP
  have hl : lv_has ls 4 [(0, .ref o), (1, .int (nI k)), (2, .ref b)] := hl
  have hX : hxf (fun q => q = r) s.heap s.heap := hxf.rf
  have hlo : lok (fun q => q = r) s.heap.size ([] : List Loc) := lok.nil
  have hP : PP g [fq b z, ob o x1 y1 r, ar g r A] s.heap := hP
  refine lv_aload_n X.1 X.2.1 dX1_changeRun_0 rfl (lv_at hl 2 rfl) ?_
  refine lv_aload_n X.1 X.2.1 dX1_changeRun_1 rfl (lv_at hl 0 rfl) ?_
  refine p_get (T := TX1) X uX1 (hP.at 1 rfl) rfl 2 (by decide) mw_79 rfl rfl dX1_changeRun_2 ?_
  refine lv_iload_n X.1 X.2.1 dX1_changeRun_5 rfl (lv_at hl 1 rfl) ?_
  refine p_aald X (hP.at 2 rfl) hk (by decide) (r := A k) rfl dX1_changeRun_6 ?_
  have hP := PP.cons (hF k hk) hP
  refine p_callV (C := RX0) (b := b) (As := [.ref (A k)]) (rest := []) X (b_same l g _ _ hz (hO.2.2.1 k hk) (by decide) (by decide) (by decide) (by decide)) ⟨mw_204, mw_205, mw_206, mw_39, mw_207⟩ sgX0_isSame ⟨rfl, rfl, ⟨by decide, by decide⟩, by decide, by decide⟩ (hP.at 1 rfl) rfl rfl (hP.sub [1, 0] rfl) hX.1 rfl hl.1 rfl (Nat.le_of_ble_eq_true rfl) dX1_changeRun_7 (fun v H1 hk2 hp => ?_)
  obtain rfl := hp
  have hX := hX.tr hk2
  have hP := PP.ext hP hk2
  have hF := RF.ext hF hk2
  refine W.eq (g2 := F0 m 10 ls [.int (bI (decide (z = q k)))]) rfl ?_
  refine q_Bne X (tgt := 17) dX1_changeRun_10 (by decide) (fun hB3 => ?_) (fun hB3 => ?_)
  ·
    refine lv_iconst (v := nI 0) X.1 X.2.1 dX1_changeRun_17 (by decide) ?_
    refine lv_istore_n (lv' := [(3, .int (nI 0)), (0, .ref o), (1, .int (nI k)), (2, .ref b)]) X.1 X.2.1 dX1_changeRun_18 rfl hl (by decide) rfl (fun ls hl => ?_)
    refine lv_aload_n X.1 X.2.1 dX1_changeRun_19 rfl (lv_at hl 1 rfl) ?_
    refine p_get (T := TX1) X uX1 (hP.at 2 rfl) rfl 2 (by decide) mw_79 rfl rfl dX1_changeRun_20 ?_
    refine lv_iload_n X.1 X.2.1 dX1_changeRun_23 rfl (lv_at hl 2 rfl) ?_
    refine lv_aload_n X.1 X.2.1 dX1_changeRun_24 rfl (lv_at hl 3 rfl) ?_
    refine f_astq (F := fun q => q = r) X (hP.at 3 rfl) (hP.at 1 rfl) hk (by decide) (Or.inl rfl) hlo dX1_changeRun_25 (fun H4 locs hpa hlo hat => ?_)
    have hX := hX.tra rfl hpa
    have hF2 := RF.exa hF hpa (fun j hj => (hD.2 j hj).1)
    have hQ := PP.exa (hP.sub [1, 2] rfl : PP g [fq b z, ob o x1 y1 r] _) hpa (fun z hz => by simp only [List.mem_cons, List.not_mem_nil, or_false] at hz; rcases hz with rfl | rfl <;> first | exact hbr | exact hD.1)
    rw [up_some] at hat
    have hF3 : RF g (va_up A k b) (va_up q k z) H4 := fun j hj => by
      by_cases h9 : j = k
      · subst h9; rw [va_up_s, va_up_s]; exact hQ.at 0 rfl
      · rw [va_up_n h9, va_up_n h9]; exact hF2 j hj
    refine lv_iload_n X.1 X.2.1 dX1_changeRun_26 rfl (lv_at hl 0 rfl) ?_
    refine w_i (v' := bI false) (by decide) ?_
    exact f_zret (v := false) X hX hlo (⟨by rw [hB3]; rfl, PP.cons (hQ.at 1 rfl) (PP.one hat), hF3⟩) ⟨by decide, by decide⟩ dX1_changeRun_27
  ·
    refine lv_iconst (v := nI 1) X.1 X.2.1 dX1_changeRun_13 (by decide) ?_
    refine lv_goto (tgt := 18) X.1 X.2.1 dX1_changeRun_14 (by decide) ?_
    refine lv_istore_n (lv' := [(3, .int (nI 1)), (0, .ref o), (1, .int (nI k)), (2, .ref b)]) X.1 X.2.1 dX1_changeRun_18 rfl hl (by decide) rfl (fun ls hl => ?_)
    refine lv_aload_n X.1 X.2.1 dX1_changeRun_19 rfl (lv_at hl 1 rfl) ?_
    refine p_get (T := TX1) X uX1 (hP.at 2 rfl) rfl 2 (by decide) mw_79 rfl rfl dX1_changeRun_20 ?_
    refine lv_iload_n X.1 X.2.1 dX1_changeRun_23 rfl (lv_at hl 2 rfl) ?_
    refine lv_aload_n X.1 X.2.1 dX1_changeRun_24 rfl (lv_at hl 3 rfl) ?_
    refine f_astq (F := fun q => q = r) X (hP.at 3 rfl) (hP.at 1 rfl) hk (by decide) (Or.inl rfl) hlo dX1_changeRun_25 (fun H5 locs hpa hlo hat => ?_)
    have hX := hX.tra rfl hpa
    have hF2 := RF.exa hF hpa (fun j hj => (hD.2 j hj).1)
    have hQ := PP.exa (hP.sub [1, 2] rfl : PP g [fq b z, ob o x1 y1 r] _) hpa (fun z hz => by simp only [List.mem_cons, List.not_mem_nil, or_false] at hz; rcases hz with rfl | rfl <;> first | exact hbr | exact hD.1)
    rw [up_some] at hat
    have hF3 : RF g (va_up A k b) (va_up q k z) H5 := fun j hj => by
      by_cases h9 : j = k
      · subst h9; rw [va_up_s, va_up_s]; exact hQ.at 0 rfl
      · rw [va_up_n h9, va_up_n h9]; exact hF2 j hj
    refine lv_iload_n X.1 X.2.1 dX1_changeRun_26 rfl (lv_at hl 0 rfl) ?_
    refine w_i (v' := bI true) (by decide) ?_
    exact f_zret (v := true) X hX hlo (⟨by rw [hB3]; rfl, PP.cons (hQ.at 1 rfl) (PP.one hat), hF3⟩) ⟨by decide, by decide⟩ dX1_changeRun_27
theorem sl_bd {a b : Nat} (ha : 1 ≤ a) (ha2 : a ≤ 20) (hb2 : b ≤ 20) : bd ((b : Rat) / (a : Rat)) 20 20 := (bd_mk (by omega)).mono hb2 ha2
theorem DD.up {o r k b : Nat} {A : Nat → Nat} (h : DD o r A) (h1 : b ≠ r) (h2 : b ≠ o) : DD o r (va_up A k b) := ⟨h.1, fun j hj => by
  by_cases h9 : j = k
  · subst h9; rw [va_up_s]; exact ⟨h1, h2⟩
  · rw [va_up_n h9]; exact h.2 j hj⟩
set_option maxHeartbeats 4000000 in
set_option maxRecDepth 100000 in
theorem c_X1_slope (l : Launch) (g : En) (o r : Nat) (A : Nat → Nat) (x1 y1 : Nat) (q : Nat → Rat) (i : Int32) (a0 b0 : Int64) (hl0 : l.stackTraces = false) (hO : OK x1 y1 q) (hD : DD o r A) : YM l yX1_slope cX1_slope 6 (some FieldType.boolean) { frames := 8, cells := 4, slots := 20, locals := 116 } g [.ref o, .int i, .long a0, .long b0] (fun H => RP g o r A x1 y1 q H) (fun q => q = r) 4 20 (fun v H => (inI i 4 = true ∧ inL a0 1 20 = true ∧ inL b0 1 20 = true) ∧ v = some (.int (bI (!decide (((toL b0 : Nat) : Rat) / ((toL a0 : Nat) : Rat) = q (toN i))))) ∧ ∃ b : Nat, DD o r (va_up A (toN i) b) ∧ RP g o r (va_up A (toN i) b) x1 y1 (va_up q (toN i) (((toL b0 : Nat) : Rat) / ((toL a0 : Nat) : Rat))) H) (xk (inI i 4) true (inL a0 1 20 && inL b0 1 20)) := by
  refine YM.of (by decide) (Nat.le_of_ble_eq_true rfl) (fun p e s m below meth c ls X hne hE hG hl => ?_)
  obtain ⟨hP, hF⟩ := hG
  have hl : lv_has ls 6 [(0, .ref o), (1, .int i), (2, .long a0), (4, .long b0)] := hl
  have hX : hxf (fun q => q = r) s.heap s.heap := hxf.rf
  have hlo : lok (fun q => q = r) s.heap.size ([] : List Loc) := lok.nil
  have hP : PP g [ob o x1 y1 r, ar g r A] s.heap := hP
  have hX : hxt s.heap s.heap := hxt.rf
  refine lv_iload_n X.1 X.2.1 dX1_slope_0 rfl (lv_at hl 1 rfl) ?_
  refine lv_iconst (v := nI 4) X.1 X.2.1 dX1_slope_1 (by decide) ?_
  refine y_callS (F := fun q => q = r) (As := [.int i, .int (nI 4)]) (rest := []) X hne hE (c_X1_checkIndex l g i 4 hl0 (by decide)) ⟨mw_175, mw_176, mw_38, mw_177⟩ sgX1_checkIndex ⟨rfl, rfl, ⟨by decide, by decide⟩, by decide, by decide⟩ trivial hX rfl hl.1 rfl (Nat.le_of_ble_eq_true rfl) dX1_slope_2 (fun E h => xk_A (fun h9 => h9) h) ⟨by decide, by decide⟩ (fun v H1 hk2 hp => ?_)
  obtain ⟨rfl, hi⟩ := hp
  have hX := hX.tr hk2
  have hP := PP.ext hP hk2
  have hF := RF.ext hF hk2
  refine W.eq (g2 := F0 m 5 ls []) rfl ?_
  obtain ⟨k, hk, rfl⟩ := inI_of hi (by decide)
  have ek : toN (nI k) = k := toN_k (by omega)
  refine lv_lload_n X.1 X.2.1 dX1_slope_5 rfl (lv_at hl 2 rfl) ?_
  refine lv_lconst (v := lN 1) X.1 X.2.1 dX1_slope_6 (by decide) ?_
  refine lv_ldc2 (v := 20) X.1 X.2.1 X.2.2.2.1 (X.2.2.2.2.1 _ (List.mem_cons_of_mem _ mw_199)) dX1_slope_7 ?_
  refine w_l (v' := lN 20) (by decide) ?_
  refine y_callS (F := fun q => q = r) (As := [.long a0, .long (lN 1), .long (lN 20)]) (rest := []) X hne hE (c_X1_checkNumber l g a0 1 20 hl0 (by decide) (by decide)) ⟨mw_96, mw_97, mw_38, mw_98⟩ sgX1_checkNumber ⟨rfl, rfl, ⟨by decide, by decide⟩, by decide, by decide⟩ trivial hX rfl hl.1 rfl (Nat.le_of_ble_eq_true rfl) dX1_slope_10 (fun E h => xk_G hi rfl (fun h9 => by rw [h9]; rfl) h) ⟨by decide, by decide⟩ (fun v H3 hk4 hp => ?_)
  obtain ⟨rfl, ha⟩ := hp
  have hX := hX.tr hk4
  have hP := PP.ext hP hk4
  have hF := RF.ext hF hk4
  refine W.eq (g2 := F0 m 13 ls []) rfl ?_
  refine lv_lload X.1 X.2.1 dX1_slope_13 (lv_at hl 3 rfl) ?_
  refine lv_lconst (v := lN 1) X.1 X.2.1 dX1_slope_15 (by decide) ?_
  refine lv_ldc2 (v := 20) X.1 X.2.1 X.2.2.2.1 (X.2.2.2.2.1 _ (List.mem_cons_of_mem _ mw_199)) dX1_slope_16 ?_
  refine w_l (v' := lN 20) (by decide) ?_
  refine y_callS (F := fun q => q = r) (As := [.long b0, .long (lN 1), .long (lN 20)]) (rest := []) X hne hE (c_X1_checkNumber l g b0 1 20 hl0 (by decide) (by decide)) ⟨mw_96, mw_97, mw_38, mw_98⟩ sgX1_checkNumber ⟨rfl, rfl, ⟨by decide, by decide⟩, by decide, by decide⟩ trivial hX rfl hl.1 rfl (Nat.le_of_ble_eq_true rfl) dX1_slope_19 (fun E h => xk_G hi rfl (fun h9 => by rw [h9, ha]; rfl) h) ⟨by decide, by decide⟩ (fun v H5 hk6 hp => ?_)
  obtain ⟨rfl, hb⟩ := hp
  have hX := hX.tr hk6
  have hP := PP.ext hP hk6
  have hF := RF.ext hF hk6
  refine W.eq (g2 := F0 m 22 ls []) rfl ?_
  obtain ⟨na, ha1, ha2, rfl⟩ := inL_of ha (by decide)
  obtain ⟨nb, hb1, hb2, rfl⟩ := inL_of hb (by decide)
  have ea : toL (lN na) = na := toL_k (by omega)
  have eb : toL (lN nb) = nb := toL_k (by omega)
  refine lv_aload_n X.1 X.2.1 dX1_slope_22 rfl (lv_at hl 0 rfl) ?_
  refine lv_iload_n X.1 X.2.1 dX1_slope_23 rfl (lv_at hl 1 rfl) ?_
  have hro : r < H5.size ∧ o < H5.size := ⟨va_at.lt (hP.at 1 rfl), va_at.lt (hP.at 0 rfl)⟩
  refine p_new (C := RX0) (T := TX0) (N := 2) (ci := 0) X tyX0 tyX0_ok uX0 ⟨mw_58, mw_60, mw_39⟩ rfl [.long 0, .long 0] (fun j hj => by rcases (show j = 0 ∨ j = 1 by omega) with rfl | rfl <;> rfl) ⟨by decide, by decide⟩ dX1_slope_24 (fun q7 H8 eq7 zq7 kq7 hq7 => ?_)
  have hX0 := hX
  have hX := hX.tr kq7
  have hP0 := hP
  have hP := PP.ext hP kq7
  have hF0 := hF
  have hF := RF.ext hF kq7
  refine lv_dup X.1 X.2.1 dX1_slope_27 rfl ?_
  refine lv_lload X.1 X.2.1 dX1_slope_28 (lv_at hl 3 rfl) ?_
  refine lv_lload_n X.1 X.2.1 dX1_slope_30 rfl (lv_at hl 2 rfl) ?_
  have hqn : q7 ≠ r ∧ q7 ≠ o := ⟨by omega, by omega⟩
  refine p_callI (b := q7) (As := [.long (lN nb), .long (lN na)]) (rest := [.ref q7, .int (nI k), .ref o]) X (c_X0_init l g q7 nb na (by omega) (by omega) (by omega)) ⟨mw_61, mw_62, mw_39, mw_63⟩ rfl sgX0_init ⟨rfl, rfl, ⟨by decide, by decide⟩, by decide, by decide⟩ (PP.one hq7) hX.1 (by rw [eq7]; exact hX0.1) rfl hl.1 rfl (Nat.le_of_ble_eq_true rfl) dX1_slope_31 (fun H9 hkq7 hp => ?_)
  have keq7 := kq7.init (Nat.le_of_eq eq7.symm) hkq7
  have hX := hX0.tr keq7
  have hP := PP.cons hp (PP.ext hP0 keq7)
  have hF := RF.ext hF0 keq7
  refine W.eq (g2 := F0 m 34 ls [.ref q7, .int (nI k), .ref o]) rfl ?_
  have hX := hxf.of (F := fun q => q = r) hX
  have hlo : lok (fun q => q = r) s.heap.size ([] : List Loc) := lok.nil
  refine f_callV (F := fun q => q = r) (C := RX1) (b := o) (As := [.int (nI k), .ref q7]) (rest := []) X (c_X1_changeRun l g o r A x1 y1 q k q7 ((nb : Rat) / (na : Rat)) hO hD hk (sl_bd ha1 ha2 hb2) hqn.1) ⟨mw_200, mw_202, mw_1, mw_38, mw_203⟩ sgX1_changeRun ⟨rfl, rfl, ⟨by decide, by decide⟩, by decide, by decide⟩ (hP.at 1 rfl) rfl rfl (⟨RP.of hP [1, 2] rfl hF, hP.at 0 rfl⟩) hX.1 (fun q h => h) hlo rfl hl.1 rfl (Nat.le_of_ble_eq_true rfl) dX1_slope_34 (fun v H10 locs hk11 hlo hp => ?_)
  obtain ⟨rfl, hRP⟩ := hp
  have hX := hX.trf (fun q h => h) hk11
  refine W.eq (g2 := F0 m 37 ls [.int (bI (!decide ((nb : Rat) / (na : Rat) = q k)))]) rfl ?_
  exact vx_ret (f_zret (v := !decide ((nb : Rat) / (na : Rat) = q k)) X hX hlo (⟨⟨hi, ha, hb⟩, by simp only [ek, ea, eb], q7, by simp only [ek]; exact hD.up hqn.1 hqn.2, by simp only [ek, ea, eb]; exact hRP⟩) ⟨by decide, by decide⟩ dX1_slope_37)
set_option maxHeartbeats 4000000 in
set_option maxRecDepth 100000 in
theorem c_X1_gable (l : Launch) (g : En) (o r : Nat) (A : Nat → Nat) (x1 y1 : Nat) (q : Nat → Rat) (i : Int32) (hl0 : l.stackTraces = false) (hO : OK x1 y1 q) (hD : DD o r A) : YM l yX1_gable cX1_gable 2 (some FieldType.boolean) { frames := 8, cells := 3, slots := 14, locals := 116 } g [.ref o, .int i] (fun H => RP g o r A x1 y1 q H) (fun q => q = r) 3 14 (fun v H => (inI i 4 = true ∧ oth q (toN i) = true) ∧ v = some (.int (bI (!decide ((0 : Rat) = q (toN i))))) ∧ ∃ b : Nat, DD o r (va_up A (toN i) b) ∧ RP g o r (va_up A (toN i) b) x1 y1 (va_up q (toN i) ((0 : Rat))) H) (xk (inI i 4) (oth q (toN i)) true) := by
  refine YM.of (by decide) (Nat.le_of_ble_eq_true rfl) (fun p e s m below meth c ls X hne hE hG hl => ?_)
  obtain ⟨hP, hF⟩ := hG
  have hl : lv_has ls 2 [(0, .ref o), (1, .int i)] := hl
  have hX : hxf (fun q => q = r) s.heap s.heap := hxf.rf
  have hlo : lok (fun q => q = r) s.heap.size ([] : List Loc) := lok.nil
  have hP : PP g [ob o x1 y1 r, ar g r A] s.heap := hP
  have hX : hxt s.heap s.heap := hxt.rf
  refine lv_iload_n X.1 X.2.1 dX1_gable_0 rfl (lv_at hl 1 rfl) ?_
  refine lv_iconst (v := nI 4) X.1 X.2.1 dX1_gable_1 (by decide) ?_
  refine y_callS (F := fun q => q = r) (As := [.int i, .int (nI 4)]) (rest := []) X hne hE (c_X1_checkIndex l g i 4 hl0 (by decide)) ⟨mw_175, mw_176, mw_38, mw_177⟩ sgX1_checkIndex ⟨rfl, rfl, ⟨by decide, by decide⟩, by decide, by decide⟩ trivial hX rfl hl.1 rfl (Nat.le_of_ble_eq_true rfl) dX1_gable_2 (fun E h => xk_A (fun h9 => h9) h) ⟨by decide, by decide⟩ (fun v H1 hk2 hp => ?_)
  obtain ⟨rfl, hi⟩ := hp
  have hX := hX.tr hk2
  have hP := PP.ext hP hk2
  have hF := RF.ext hF hk2
  refine W.eq (g2 := F0 m 5 ls []) rfl ?_
  obtain ⟨k, hk, rfl⟩ := inI_of hi (by decide)
  have ek : toN (nI k) = k := toN_k (by omega)
  refine lv_aload_n X.1 X.2.1 dX1_gable_5 rfl (lv_at hl 0 rfl) ?_
  refine lv_iload_n X.1 X.2.1 dX1_gable_6 rfl (lv_at hl 1 rfl) ?_
  refine y_callV (F := fun q => q = r) (C := RX1) (b := o) (As := [.int (nI k)]) (rest := []) X hne hE (c_X1_checkOthersAreNotAllGables l g o r A x1 y1 q k hl0 hO hk) ⟨mw_216, mw_218, mw_2, mw_38, mw_219⟩ sgX1_checkOthersAreNotAllGables ⟨rfl, rfl, ⟨by decide, by decide⟩, by decide, by decide⟩ (hP.at 0 rfl) rfl rfl (RP.of hP [0, 1] rfl hF) hX rfl hl.1 rfl (Nat.le_of_ble_eq_true rfl) dX1_gable_7 (fun E h => xk_S hi (fun h9 => by rw [ek]; exact h9) h) ⟨by decide, by decide⟩ (fun v H3 hk4 hp => ?_)
  obtain ⟨rfl, ho⟩ := hp
  have hX := hX.tr hk4
  have hP := PP.ext hP hk4
  have hF := RF.ext hF hk4
  refine W.eq (g2 := F0 m 10 ls []) rfl ?_
  refine lv_aload_n X.1 X.2.1 dX1_gable_10 rfl (lv_at hl 0 rfl) ?_
  refine lv_iload_n X.1 X.2.1 dX1_gable_11 rfl (lv_at hl 1 rfl) ?_
  have hro : r < H3.size ∧ o < H3.size := ⟨va_at.lt (hP.at 1 rfl), va_at.lt (hP.at 0 rfl)⟩
  refine p_new (C := RX0) (T := TX0) (N := 2) (ci := 0) X tyX0 tyX0_ok uX0 ⟨mw_58, mw_60, mw_39⟩ rfl [.long 0, .long 0] (fun j hj => by rcases (show j = 0 ∨ j = 1 by omega) with rfl | rfl <;> rfl) ⟨by decide, by decide⟩ dX1_gable_12 (fun q5 H6 eq5 zq5 kq5 hq5 => ?_)
  have hX0 := hX
  have hX := hX.tr kq5
  have hP0 := hP
  have hP := PP.ext hP kq5
  have hF0 := hF
  have hF := RF.ext hF kq5
  refine lv_dup X.1 X.2.1 dX1_gable_15 rfl ?_
  refine lv_lconst (v := lN 0) X.1 X.2.1 dX1_gable_16 (by decide) ?_
  refine lv_lconst (v := lN 1) X.1 X.2.1 dX1_gable_17 (by decide) ?_
  have hqn : q5 ≠ r ∧ q5 ≠ o := ⟨by omega, by omega⟩
  refine p_callI (b := q5) (As := [.long (lN 0), .long (lN 1)]) (rest := [.ref q5, .int (nI k), .ref o]) X (c_X0_init l g q5 0 1 (by decide) (by decide) (by decide)) ⟨mw_61, mw_62, mw_39, mw_63⟩ rfl sgX0_init ⟨rfl, rfl, ⟨by decide, by decide⟩, by decide, by decide⟩ (PP.one hq5) hX.1 (by rw [eq5]; exact hX0.1) rfl hl.1 rfl (Nat.le_of_ble_eq_true rfl) dX1_gable_18 (fun H7 hkq5 hp => ?_)
  have keq5 := kq5.init (Nat.le_of_eq eq5.symm) hkq5
  have hX := hX0.tr keq5
  rw [show ((0 : Nat) : Rat) / ((1 : Nat) : Rat) = (0 : Rat) by decide +kernel] at hp
  have hP := PP.cons hp (PP.ext hP0 keq5)
  have hF := RF.ext hF0 keq5
  refine W.eq (g2 := F0 m 21 ls [.ref q5, .int (nI k), .ref o]) rfl ?_
  have hX := hxf.of (F := fun q => q = r) hX
  have hlo : lok (fun q => q = r) s.heap.size ([] : List Loc) := lok.nil
  refine f_callV (F := fun q => q = r) (C := RX1) (b := o) (As := [.int (nI k), .ref q5]) (rest := []) X (c_X1_changeRun l g o r A x1 y1 q k q5 ((0 : Rat)) hO hD hk ((bd_nat 0).mono (by decide) (by decide)) hqn.1) ⟨mw_200, mw_202, mw_1, mw_38, mw_203⟩ sgX1_changeRun ⟨rfl, rfl, ⟨by decide, by decide⟩, by decide, by decide⟩ (hP.at 1 rfl) rfl rfl (⟨RP.of hP [1, 2] rfl hF, hP.at 0 rfl⟩) hX.1 (fun q h => h) hlo rfl hl.1 rfl (Nat.le_of_ble_eq_true rfl) dX1_gable_21 (fun v H8 locs hk9 hlo hp => ?_)
  obtain ⟨rfl, hRP⟩ := hp
  have hX := hX.trf (fun q h => h) hk9
  refine W.eq (g2 := F0 m 24 ls [.int (bI (!decide ((0 : Rat) = q k)))]) rfl ?_
  exact vx_ret (f_zret (v := !decide ((0 : Rat) = q k)) X hX hlo (⟨⟨hi, by rw [ek]; exact ho⟩, by simp only [ek], q5, by simp only [ek]; exact hD.up hqn.1 hqn.2, by simp only [ek]; exact hRP⟩) ⟨by decide, by decide⟩ dX1_gable_24)
end
