section ZC
variable {p : Program} {l : Launch} {e : Env} {s : State} {m : MethodId} {args : Array Value} {below : List Frame} {meth : Method} {c : Code} {D : va_G} {T : Nat → ClassId} {A : Nat → Prop} {ad a : Nat → Nat} {lg : Lg}
-- PeckYard$Line.moveSlot(II)V
def rmX7_moveSlot : Room := { frames := 1, cells := 0, slots := 0, locals := 24 }
theorem kX7_moveSlot_f9 : Cond.fieldLink RX7 9 "PeckYard$Line" "row" "[I" ∈ wsX7_moveSlot := by decide +kernel
theorem kX7_moveSlot_iX7 : ∀ w ∈ u_ws RX7 TX7 4, w ∈ wsX7_moveSlot := by decide +kernel
theorem kX7_moveSlot_ini_X11 : Cond.initialized "PeckYard" ∈ wsX7_moveSlot := by decide +kernel
theorem kX7_moveSlot_s79 : Cond.static yX11_shift ∈ wsX7_moveSlot := by decide +kernel
theorem kX7_moveSlot_m83 : Cond.methodLink RX7 83 Lib.Math.min.name ∈ wsX7_moveSlot := by decide +kernel
theorem kX7_moveSlot_s83 : Cond.static Lib.Math.min.name ∈ wsX7_moveSlot := by decide +kernel
theorem kX7_moveSlot_ini_Math : Cond.initialized "java/lang/Math" ∈ wsX7_moveSlot := by decide +kernel
theorem kX7_moveSlot_cd83 : Cond.code Lib.Math.min.name Lib.Math.min.code 2 (some .int) ∈ wsX7_moveSlot := by decide +kernel
theorem kX7_moveSlot_m88 : Cond.methodLink RX7 88 Lib.Math.max.name ∈ wsX7_moveSlot := by decide +kernel
theorem kX7_moveSlot_s88 : Cond.static Lib.Math.max.name ∈ wsX7_moveSlot := by decide +kernel
theorem kX7_moveSlot_cd88 : Cond.code Lib.Math.max.name Lib.Math.max.code 2 (some .int) ∈ wsX7_moveSlot := by decide +kernel
theorem kX7_moveSlot_f15 : Cond.fieldLink RX7 15 "PeckYard$Line" "place" "[I" ∈ wsX7_moveSlot := by decide +kernel
def fX7_moveSlot_15 (r15 : (Int32 × Int32 × Int32 × Sg) → Option (Sg)) (v1 : Int32) (v2 : Int32) (v3 : Int32) (sg : Sg) : Option (Sg) :=
  (if (if v1 < v2 then v2 else v1) < v3 then some sg else gin v3 12 (gin (sg 32 v3.toNatClampNeg) 12 (lt (up2 sg 33 (sg 32 v3.toNatClampNeg).toNatClampNeg v3) (fun sg4 => lt (v3 + (1 : Int32)) (fun x5 => r15 (v1, v2, x5, sg4))))))
set_option maxHeartbeats 4000000 in
set_option maxRecDepth 100000 in
theorem tX7_moveSlot_15 (C : Cx p s m args meth c cX7_moveSlot 4 RX7 wsX7_moveSlot none D vwCl (tysC T) A true nwL) {so : Sg} {r15 : (Int32 × Int32 × Int32 × Sg) → Option (Sg)} (hr15 : ∀ (v1 : Int32) (v2 : Int32) (v3 : Int32) (sg : Sg), r15 (v1, v2, v3, sg) = some so → ∀ (H : Heap) (locs : List Loc) (ls : Array Slot), WS ZC D vwCl T ad sg lg A s.heap H locs → lv_has ls 4 [(0, .ref (ad 6)), (1, .int v1), (2, .int v2), (3, .int v3)] → W p l e rmX7_moveSlot s m args below meth c H locs 0 0 (MQ below (QV ZC D vwCl T (tysC T) A (fun z => ad = z) so lg) args s 0 0 A) (F0 m 15 ls [])) : ∀ (v1 : Int32) (v2 : Int32) (v3 : Int32) (sg : Sg), ∀ (H : Heap) (locs : List Loc) (ls : Array Slot), WS ZC D vwCl T ad sg lg A s.heap H locs → lv_has ls 4 [(0, .ref (ad 6)), (1, .int v1), (2, .int v2), (3, .int v3)] → fX7_moveSlot_15 r15 v1 v2 v3 sg = some so → W p l e rmX7_moveSlot s m args below meth c H locs 0 0 (MQ below (QV ZC D vwCl T (tysC T) A (fun z => ad = z) so lg) args s 0 0 A) (F0 m 15 ls []) := by
  obtain ⟨⟨hx, hb, hml, hown, hts⟩, hr, hlk, hK, hA, hsp⟩ := id C
  intro v1 v2 v3 sg H locs ls hw hl h
  unfold fX7_moveSlot_15 at h
  refine lv_iload_n hx hb dX7_moveSlot_15 rfl (lv_at hl 3 rfl) ?_
  refine lv_iload_n hx hb dX7_moveSlot_16 rfl (lv_at hl 1 rfl) ?_
  refine lv_iload_n hx hb dX7_moveSlot_17 rfl (lv_at hl 2 rfl) ?_
  refine va_mmax hx hb (hml.trans hl.1.symm) hown (hts _ kX7_moveSlot_m88) (hts _ kX7_moveSlot_s88) (hts _ kX7_moveSlot_ini_Math) (hts _ kX7_moveSlot_cd88) (Nat.le_of_ble_eq_true rfl) (Nat.le_of_ble_eq_true rfl) (Nat.le_of_ble_eq_true rfl) (Nat.le_of_ble_eq_true rfl) dX7_moveSlot_18 ?_
  refine lv_icmp_gt (tgt := 42) hx hb dX7_moveSlot_21 (by decide) (fun c1 => ?_) (fun c1 => ?_)
  · replace h := ite_t h c1
    cases h
    exact r_vret C hw rfl (by decide) (by decide) dX7_moveSlot_42
  · replace h := ite_f h c1
    refine lv_aload_n hx hb dX7_moveSlot_24 rfl (lv_at hl 0 rfl) ?_
    refine r_getR (ci := 7) (C := RX7) (U := TX7) (N := 4) hx hb hts kX7_moveSlot_iX7 hown hK hw 6 (by decide) rfl rfl 2 (by decide) 33 rfl (hts _ kX7_moveSlot_f15) (fun _ h9 => h9) dX7_moveSlot_25 ?_
    refine lv_aload_n hx hb dX7_moveSlot_28 rfl (lv_at hl 0 rfl) ?_
    refine r_getR (ci := 7) (C := RX7) (U := TX7) (N := 4) hx hb hts kX7_moveSlot_iX7 hown hK hw 6 (by decide) rfl rfl 1 (by decide) 32 rfl (hts _ kX7_moveSlot_f9) (fun _ h9 => h9) dX7_moveSlot_29 ?_
    refine lv_iload_n hx hb dX7_moveSlot_32 rfl (lv_at hl 3 rfl) ?_
    have hi2 := (gin_some h).1
    replace h := (gin_some h).2
    refine r_iald hx hb hK hw 32 0 12 (by decide) rfl rfl rfl hi2 dX7_moveSlot_33 ?_
    refine lv_iload_n hx hb dX7_moveSlot_34 rfl (lv_at hl 3 rfl) ?_
    have hi3 := (gin_some h).1
    replace h := (gin_some h).2
    refine r_iast ZC_ok hx hb hK hw 33 0 12 (by decide) rfl rfl rfl hi3 dX7_moveSlot_35 (fun H locs sg4 esg4 hw => ?_)
    replace h := lt_get h sg4 esg4
    obtain ⟨x5, ex5⟩ : ∃ z : Int32, z = (v3 + (1 : Int32)) := ⟨_, rfl⟩
    replace h := lt_get h x5 ex5
    refine lv_iinc (v := x5) (lv' := [(3, .int x5), (0, .ref (ad 6)), (1, .int v1), (2, .int v2)]) hx hb dX7_moveSlot_36 hl (k := 3) rfl (by rw [ex5]; rfl) (by decide) rfl (fun ls hl => ?_)
    refine lv_goto (tgt := 15) hx hb dX7_moveSlot_39 (by decide) ?_
    exact hr15 v1 v2 x5 sg4 h _ _ _ hw (lv_sub hl [1, 2, 3, 0] rfl)
def LX7_moveSlot_15  : (Int32 × Int32 × Int32 × Sg) → Option (Sg) := loop (fun rec z => fX7_moveSlot_15 rec z.1 z.2.1 z.2.2.1 z.2.2.2)
theorem TX7_moveSlot_15 (C : Cx p s m args meth c cX7_moveSlot 4 RX7 wsX7_moveSlot none D vwCl (tysC T) A true nwL) {so : Sg}   : ∀ (v1 : Int32) (v2 : Int32) (v3 : Int32) (sg : Sg), LX7_moveSlot_15 (v1, v2, v3, sg) = some so → ∀ (H : Heap) (locs : List Loc) (ls : Array Slot), WS ZC D vwCl T ad sg lg A s.heap H locs → lv_has ls 4 [(0, .ref (ad 6)), (1, .int v1), (2, .int v2), (3, .int v3)] → W p l e rmX7_moveSlot s m args below meth c H locs 0 0 (MQ below (QV ZC D vwCl T (tysC T) A (fun z => ad = z) so lg) args s 0 0 A) (F0 m 15 ls []) := by
  have key : ∀ z : (Int32 × Int32 × Int32 × Sg), LX7_moveSlot_15  z = some so → ∀ (H : Heap) (locs : List Loc) (ls : Array Slot), WS ZC D vwCl T ad z.2.2.2 lg A s.heap H locs → lv_has ls 4 [(0, .ref (ad 6)), (1, .int z.1), (2, .int z.2.1), (3, .int z.2.2.1)] → W p l e rmX7_moveSlot s m args below meth c H locs 0 0 (MQ below (QV ZC D vwCl T (tysC T) A (fun z => ad = z) so lg) args s 0 0 A) (F0 m 15 ls []) := by
    intro z h
    unfold LX7_moveSlot_15 at h
    exact loop_ind (fun rec z => fX7_moveSlot_15 rec z.1 z.2.1 z.2.2.1 z.2.2.2) (y := so) (P := fun z => ∀ (H : Heap) (locs : List Loc) (ls : Array Slot), WS ZC D vwCl T ad z.2.2.2 lg A s.heap H locs → lv_has ls 4 [(0, .ref (ad 6)), (1, .int z.1), (2, .int z.2.1), (3, .int z.2.2.1)] → W p l e rmX7_moveSlot s m args below meth c H locs 0 0 (MQ below (QV ZC D vwCl T (tysC T) A (fun z => ad = z) so lg) args s 0 0 A) (F0 m 15 ls [])) (fun rec hrec z h H locs ls hw hl => tX7_moveSlot_15 C  (fun v1 v2 v3 sg => hrec (v1, v2, v3, sg)) z.1 z.2.1 z.2.2.1 z.2.2.2 H locs ls hw hl h) z h
  exact fun v1 v2 v3 sg => key (v1, v2, v3, sg)
def fX7_moveSlot  (v1 : Int32) (v2 : Int32) (sg : Sg) : Option (Sg) :=
  bnd1 (fX11_shift_c32 v1 v2 sg) (fun sg1 => lt (if v2 < v1 then v2 else v1) (fun x4 => LX7_moveSlot_15 (v1, v2, x4, sg1)))
set_option maxHeartbeats 4000000 in
set_option maxRecDepth 100000 in
theorem tX7_moveSlot_0 (C : Cx p s m args meth c cX7_moveSlot 4 RX7 wsX7_moveSlot none D vwCl (tysC T) A true nwL) {so : Sg}   : ∀ (v1 : Int32) (v2 : Int32) (sg : Sg), ∀ (H : Heap) (locs : List Loc) (ls : Array Slot), WS ZC D vwCl T ad sg lg A s.heap H locs → lv_has ls 4 [(0, .ref (ad 6)), (1, .int v1), (2, .int v2)] → fX7_moveSlot v1 v2 sg = some so → W p l e rmX7_moveSlot s m args below meth c H locs 0 0 (MQ below (QV ZC D vwCl T (tysC T) A (fun z => ad = z) so lg) args s 0 0 A) (F0 m 0 ls []) := by
  obtain ⟨⟨hx, hb, hml, hown, hts⟩, hr, hlk, hK, hA, hsp⟩ := id C
  intro v1 v2 sg H locs ls hw hl h
  unfold fX7_moveSlot at h
  refine lv_aload_n hx hb dX7_moveSlot_0 rfl (lv_at hl 0 rfl) ?_
  refine r_getR (ci := 7) (C := RX7) (U := TX7) (N := 4) hx hb hts kX7_moveSlot_iX7 hown hK hw 6 (by decide) rfl rfl 1 (by decide) 32 rfl (hts _ kX7_moveSlot_f9) (fun _ h9 => h9) dX7_moveSlot_1 ?_
  refine lv_iload_n hx hb dX7_moveSlot_4 rfl (lv_at hl 1 rfl) ?_
  refine lv_iload_n hx hb dX7_moveSlot_5 rfl (lv_at hl 2 rfl) ?_
  obtain ⟨sg1, hq2, h2⟩ := bnd1_some h
  replace h := h2
  clear h2
  obtain ⟨-, -, hmt3⟩ := hsp rfl
  refine r_cNv (As := [.ref (ad 32), .int v1, .int v2]) (rest := []) C hw (mX11_shift_c32 l D T ad lg H.size v1 v2 sg hq2) ⟨va_cnB (host := "PeckYard") 3 hts gX7_moveSlot_X11_shift_n79 rfl rfl rfl (hmt3 _ nw_X7_79) (hts _ kX7_moveSlot_ini_X11) (by decide +kernel) ⟨Nat.le_of_ble_eq_true rfl, Nat.le_of_ble_eq_true rfl⟩, (hts _ kX7_moveSlot_s79), trivial⟩ rfl hl.1 rfl (Nat.le_of_ble_eq_true rfl) dX7_moveSlot_6 ⟨Nat.le_of_ble_eq_true rfl, Nat.le_of_ble_eq_true rfl⟩ (fun ad' H locs hp hw => ?_)
  subst hp
  refine W.widen (k := 0) (n := 0) (by decide) (by decide) ?_
  refine lv_iload_n hx hb dX7_moveSlot_9 rfl (lv_at hl 1 rfl) ?_
  refine lv_iload_n hx hb dX7_moveSlot_10 rfl (lv_at hl 2 rfl) ?_
  refine va_mmin hx hb (hml.trans hl.1.symm) hown (hts _ kX7_moveSlot_m83) (hts _ kX7_moveSlot_s83) (hts _ kX7_moveSlot_ini_Math) (hts _ kX7_moveSlot_cd83) (Nat.le_of_ble_eq_true rfl) (Nat.le_of_ble_eq_true rfl) (Nat.le_of_ble_eq_true rfl) (Nat.le_of_ble_eq_true rfl) dX7_moveSlot_11 ?_
  refine lv_topi (fun x4 ex4 => ?_)
  replace h := lt_get h x4 ex4
  refine lv_istore_n (lv' := [(3, .int x4), (0, .ref (ad 6)), (1, .int v1), (2, .int v2)]) hx hb dX7_moveSlot_14 rfl hl (by decide) rfl (fun ls hl => ?_)
  exact TX7_moveSlot_15 C v1 v2 x4 sg1 h _ _ _ hw (lv_sub hl [1, 2, 3, 0] rfl)
theorem mX7_moveSlot (l : Launch) (D : va_G) (T : Nat → ClassId) (ad : Nat → Nat) (lg : Lg) (sz : Nat)   (v1 : Int32) (v2 : Int32) (sg : Sg) {so : Sg} (h : fX7_moveSlot v1 v2 sg = some so) : Met l yX7_moveSlot wsX7_moveSlot rmX7_moveSlot (PreZ ZC D vwCl T (tysC T) ad sg lg true nwL [.ref (ad 6), .int v1, .int v2] sz) (QV ZC D vwCl T (tysC T) (va_A (zwd ZC T ad sg lg) sz) (fun z => ad = z) so lg) 0 0 (va_A (zwd ZC T ad sg lg) sz) :=
  metZ [.ref (ad 6), .int v1, .int v2] sz (by decide) rfl (Nat.le_of_ble_eq_true rfl) (fun p e s m below meth c ls C hw hl => tX7_moveSlot_0 C v1 v2 sg _ _ _ hw hl h)
-- PeckYard$Line.weighMoves(I)V
def rmX7_weighMoves : Room := { frames := 1, cells := 0, slots := 0, locals := 22 }
theorem kX7_weighMoves_f9 : Cond.fieldLink RX7 9 "PeckYard$Line" "row" "[I" ∈ wsX7_weighMoves := by decide +kernel
theorem kX7_weighMoves_iX7 : ∀ w ∈ u_ws RX7 TX7 4, w ∈ wsX7_weighMoves := by decide +kernel
theorem kX7_weighMoves_f18 : Cond.fieldLink RX7 18 "PeckYard$Line" "heavier" "[I" ∈ wsX7_weighMoves := by decide +kernel
theorem kX7_weighMoves_f21 : Cond.fieldLink RX7 21 "PeckYard$Line" "muster" "LPeckYard$Muster;" ∈ wsX7_weighMoves := by decide +kernel
theorem kX7_weighMoves_f36 : Cond.fieldLink RX7 36 "PeckYard$Muster" "size" "I" ∈ wsX7_weighMoves := by decide +kernel
theorem kX7_weighMoves_iX8 : ∀ w ∈ u_ws RX8 TX8 10, w ∈ wsX7_weighMoves := by decide +kernel
def fX7_weighMoves_83 (r83 : (Int32 × Int32 × Sg) → Option (Sg)) (v2 : Int32) (v3 : Int32) (sg : Sg) : Option (Sg) :=
  (if v3 < 0 then some sg else lt (v3 + (1 : Int32)) (fun x2 => gin x2 12 (gin v3 12 (bnd2 (fX8_peckOf (sg 32 v3.toNatClampNeg) v2 sg) (fun y5 sg6 => gin v3 12 (bnd2 (fX8_peckOf v2 (sg6 32 v3.toNatClampNeg) sg6) (fun y9 sg10 => lt (((sg 34 x2.toNatClampNeg) + y5) - y9) (fun x12 => gin v3 12 (lt (up2 sg10 34 v3.toNatClampNeg x12) (fun sg14 => lt (v3 + (-1 : Int32)) (fun x15 => r83 (v2, x15, sg14))))))))))))
set_option maxHeartbeats 4000000 in
set_option maxRecDepth 100000 in
theorem tX7_weighMoves_83 (C : Cx p s m args meth c cX7_weighMoves 4 RX7 wsX7_weighMoves none D vwCl (tysC T) A true nwL) {so : Sg} {r83 : (Int32 × Int32 × Sg) → Option (Sg)} (hr83 : ∀ (v2 : Int32) (v3 : Int32) (sg : Sg), r83 (v2, v3, sg) = some so → ∀ (H : Heap) (locs : List Loc) (ls : Array Slot), WS ZC D vwCl T ad sg lg A s.heap H locs → lv_has ls 4 [(0, .ref (ad 6)), (2, .int v2), (3, .int v3)] → W p l e rmX7_weighMoves s m args below meth c H locs 0 0 (MQ below (QV ZC D vwCl T (tysC T) A (fun z => ad = z) so lg) args s 0 0 A) (F0 m 83 ls [])) : ∀ (v2 : Int32) (v3 : Int32) (sg : Sg), ∀ (H : Heap) (locs : List Loc) (ls : Array Slot), WS ZC D vwCl T ad sg lg A s.heap H locs → lv_has ls 4 [(0, .ref (ad 6)), (2, .int v2), (3, .int v3)] → fX7_weighMoves_83 r83 v2 v3 sg = some so → W p l e rmX7_weighMoves s m args below meth c H locs 0 0 (MQ below (QV ZC D vwCl T (tysC T) A (fun z => ad = z) so lg) args s 0 0 A) (F0 m 83 ls []) := by
  obtain ⟨⟨hx, hb, hml, hown, hts⟩, hr, hlk, hK, hA, hsp⟩ := id C
  intro v2 v3 sg H locs ls hw hl h
  unfold fX7_weighMoves_83 at h
  refine lv_iload_n hx hb dX7_weighMoves_83 rfl (lv_at hl 2 rfl) ?_
  refine lv_if_lt (tgt := 137) hx hb dX7_weighMoves_84 (by decide) (fun c1 => ?_) (fun c1 => ?_)
  · replace h := ite_t h c1
    cases h
    exact r_vret C hw rfl (by decide) (by decide) dX7_weighMoves_137
  · replace h := ite_f h c1
    refine lv_aload_n hx hb dX7_weighMoves_87 rfl (lv_at hl 0 rfl) ?_
    refine r_getR (ci := 7) (C := RX7) (U := TX7) (N := 4) hx hb hts kX7_weighMoves_iX7 hown hK hw 6 (by decide) rfl rfl 3 (by decide) 34 rfl (hts _ kX7_weighMoves_f18) (fun _ h9 => h9) dX7_weighMoves_88 ?_
    refine lv_iload_n hx hb dX7_weighMoves_91 rfl (lv_at hl 2 rfl) ?_
    refine lv_aload_n hx hb dX7_weighMoves_92 rfl (lv_at hl 0 rfl) ?_
    refine r_getR (ci := 7) (C := RX7) (U := TX7) (N := 4) hx hb hts kX7_weighMoves_iX7 hown hK hw 6 (by decide) rfl rfl 3 (by decide) 34 rfl (hts _ kX7_weighMoves_f18) (fun _ h9 => h9) dX7_weighMoves_93 ?_
    refine lv_iload_n hx hb dX7_weighMoves_96 rfl (lv_at hl 2 rfl) ?_
    refine lv_iconst (v := (1 : Int32)) hx hb dX7_weighMoves_97 (by decide) ?_
    refine lv_iadd hx hb dX7_weighMoves_98 ?_
    refine lv_topi (fun x2 ex2 => ?_)
    replace h := lt_get h x2 ex2
    have hi3 := (gin_some h).1
    replace h := (gin_some h).2
    refine r_iald hx hb hK hw 34 0 12 (by decide) rfl rfl rfl hi3 dX7_weighMoves_99 ?_
    refine lv_aload_n hx hb dX7_weighMoves_100 rfl (lv_at hl 0 rfl) ?_
    refine r_getR (ci := 7) (C := RX7) (U := TX7) (N := 4) hx hb hts kX7_weighMoves_iX7 hown hK hw 6 (by decide) rfl rfl 0 (by decide) 3 rfl (hts _ kX7_weighMoves_f21) (fun _ h9 => h9) dX7_weighMoves_101 ?_
    refine lv_aload_n hx hb dX7_weighMoves_104 rfl (lv_at hl 0 rfl) ?_
    refine r_getR (ci := 7) (C := RX7) (U := TX7) (N := 4) hx hb hts kX7_weighMoves_iX7 hown hK hw 6 (by decide) rfl rfl 1 (by decide) 32 rfl (hts _ kX7_weighMoves_f9) (fun _ h9 => h9) dX7_weighMoves_105 ?_
    refine lv_iload_n hx hb dX7_weighMoves_108 rfl (lv_at hl 2 rfl) ?_
    have hi4 := (gin_some h).1
    replace h := (gin_some h).2
    refine r_iald hx hb hK hw 32 0 12 (by decide) rfl rfl rfl hi4 dX7_weighMoves_109 ?_
    refine lv_iload_n hx hb dX7_weighMoves_110 rfl (lv_at hl 1 rfl) ?_
    obtain ⟨y5, sg6, hq7, h2⟩ := bnd2_some h
    replace h := h2
    clear h2
    refine r_cVi (As := [.int (sg 32 v3.toNatClampNeg), .int v2]) (rest := [.int (sg 34 x2.toNatClampNeg), .int v3, .ref (ad 34)]) C hw 3 (by decide) (ci := 8) rfl rfl (mX8_peckOf l D T ad lg H.size (sg 32 v3.toNatClampNeg) v2 sg hq7) (cwV 2 hts gX7_weighMoves_X8_peckOf rfl rfl rfl (by decide +kernel) ⟨Nat.le_of_ble_eq_true rfl, Nat.le_of_ble_eq_true rfl⟩) rfl hl.1 rfl (Nat.le_of_ble_eq_true rfl) dX7_weighMoves_111 ⟨Nat.le_of_ble_eq_true rfl, Nat.le_of_ble_eq_true rfl⟩ (fun ad' H locs hp hw => ?_)
    subst hp
    refine W.widen (k := 0) (n := 0) (by decide) (by decide) ?_
    refine lv_iadd hx hb dX7_weighMoves_114 ?_
    refine lv_aload_n hx hb dX7_weighMoves_115 rfl (lv_at hl 0 rfl) ?_
    refine r_getR (ci := 7) (C := RX7) (U := TX7) (N := 4) hx hb hts kX7_weighMoves_iX7 hown hK hw 6 (by decide) rfl rfl 0 (by decide) 3 rfl (hts _ kX7_weighMoves_f21) (fun _ h9 => h9) dX7_weighMoves_116 ?_
    refine lv_iload_n hx hb dX7_weighMoves_119 rfl (lv_at hl 1 rfl) ?_
    refine lv_aload_n hx hb dX7_weighMoves_120 rfl (lv_at hl 0 rfl) ?_
    refine r_getR (ci := 7) (C := RX7) (U := TX7) (N := 4) hx hb hts kX7_weighMoves_iX7 hown hK hw 6 (by decide) rfl rfl 1 (by decide) 32 rfl (hts _ kX7_weighMoves_f9) (fun _ h9 => h9) dX7_weighMoves_121 ?_
    refine lv_iload_n hx hb dX7_weighMoves_124 rfl (lv_at hl 2 rfl) ?_
    have hi8 := (gin_some h).1
    replace h := (gin_some h).2
    refine r_iald hx hb hK hw 32 0 12 (by decide) rfl rfl rfl hi8 dX7_weighMoves_125 ?_
    obtain ⟨y9, sg10, hq11, h2⟩ := bnd2_some h
    replace h := h2
    clear h2
    refine r_cVi (As := [.int v2, .int (sg6 32 v3.toNatClampNeg)]) (rest := [.int ((sg 34 x2.toNatClampNeg) + y5), .int v3, .ref (ad 34)]) C hw 3 (by decide) (ci := 8) rfl rfl (mX8_peckOf l D T ad lg H.size v2 (sg6 32 v3.toNatClampNeg) sg6 hq11) (cwV 2 hts gX7_weighMoves_X8_peckOf rfl rfl rfl (by decide +kernel) ⟨Nat.le_of_ble_eq_true rfl, Nat.le_of_ble_eq_true rfl⟩) rfl hl.1 rfl (Nat.le_of_ble_eq_true rfl) dX7_weighMoves_126 ⟨Nat.le_of_ble_eq_true rfl, Nat.le_of_ble_eq_true rfl⟩ (fun ad' H locs hp hw => ?_)
    subst hp
    refine W.widen (k := 0) (n := 0) (by decide) (by decide) ?_
    refine lv_isub hx hb dX7_weighMoves_129 ?_
    refine lv_topi (fun x12 ex12 => ?_)
    replace h := lt_get h x12 ex12
    have hi13 := (gin_some h).1
    replace h := (gin_some h).2
    refine r_iast ZC_ok hx hb hK hw 34 0 12 (by decide) rfl rfl rfl hi13 dX7_weighMoves_130 (fun H locs sg14 esg14 hw => ?_)
    replace h := lt_get h sg14 esg14
    obtain ⟨x15, ex15⟩ : ∃ z : Int32, z = (v3 + (-1 : Int32)) := ⟨_, rfl⟩
    replace h := lt_get h x15 ex15
    refine lv_iinc (v := x15) (lv' := [(3, .int x15), (0, .ref (ad 6)), (2, .int v2)]) hx hb dX7_weighMoves_131 hl (k := 2) rfl (by rw [ex15]; rfl) (by decide) rfl (fun ls hl => ?_)
    refine lv_goto (tgt := 83) hx hb dX7_weighMoves_134 (by decide) ?_
    exact hr83 v2 x15 sg14 h _ _ _ hw (lv_sub hl [1, 2, 0] rfl)
def LX7_weighMoves_83  : (Int32 × Int32 × Sg) → Option (Sg) := loop (fun rec z => fX7_weighMoves_83 rec z.1 z.2.1 z.2.2)
theorem TX7_weighMoves_83 (C : Cx p s m args meth c cX7_weighMoves 4 RX7 wsX7_weighMoves none D vwCl (tysC T) A true nwL) {so : Sg}   : ∀ (v2 : Int32) (v3 : Int32) (sg : Sg), LX7_weighMoves_83 (v2, v3, sg) = some so → ∀ (H : Heap) (locs : List Loc) (ls : Array Slot), WS ZC D vwCl T ad sg lg A s.heap H locs → lv_has ls 4 [(0, .ref (ad 6)), (2, .int v2), (3, .int v3)] → W p l e rmX7_weighMoves s m args below meth c H locs 0 0 (MQ below (QV ZC D vwCl T (tysC T) A (fun z => ad = z) so lg) args s 0 0 A) (F0 m 83 ls []) := by
  have key : ∀ z : (Int32 × Int32 × Sg), LX7_weighMoves_83  z = some so → ∀ (H : Heap) (locs : List Loc) (ls : Array Slot), WS ZC D vwCl T ad z.2.2 lg A s.heap H locs → lv_has ls 4 [(0, .ref (ad 6)), (2, .int z.1), (3, .int z.2.1)] → W p l e rmX7_weighMoves s m args below meth c H locs 0 0 (MQ below (QV ZC D vwCl T (tysC T) A (fun z => ad = z) so lg) args s 0 0 A) (F0 m 83 ls []) := by
    intro z h
    unfold LX7_weighMoves_83 at h
    exact loop_ind (fun rec z => fX7_weighMoves_83 rec z.1 z.2.1 z.2.2) (y := so) (P := fun z => ∀ (H : Heap) (locs : List Loc) (ls : Array Slot), WS ZC D vwCl T ad z.2.2 lg A s.heap H locs → lv_has ls 4 [(0, .ref (ad 6)), (2, .int z.1), (3, .int z.2.1)] → W p l e rmX7_weighMoves s m args below meth c H locs 0 0 (MQ below (QV ZC D vwCl T (tysC T) A (fun z => ad = z) so lg) args s 0 0 A) (F0 m 83 ls [])) (fun rec hrec z h H locs ls hw hl => tX7_weighMoves_83 C  (fun v2 v3 sg => hrec (v2, v3, sg)) z.1 z.2.1 z.2.2 H locs ls hw hl h) z h
  exact fun v2 v3 sg => key (v2, v3, sg)
def fX7_weighMoves_18 (r18 : (Int32 × Int32 × Int32 × Sg) → Option (Sg)) (v1 : Int32) (v2 : Int32) (v3 : Int32) (sg : Sg) : Option (Sg) :=
  (if (sg 3 2) ≤ v3 then lt (v1 - (1 : Int32)) (fun x2 => LX7_weighMoves_83 (v2, x2, sg)) else lt (v3 - (1 : Int32)) (fun x3 => gin x3 12 (gin v3 12 (bnd2 (fX8_peckOf v2 (sg 32 v3.toNatClampNeg) sg) (fun y6 sg7 => gin v3 12 (bnd2 (fX8_peckOf (sg7 32 v3.toNatClampNeg) v2 sg7) (fun y10 sg11 => lt (((sg 34 x3.toNatClampNeg) + y6) - y10) (fun x13 => gin v3 12 (lt (up2 sg11 34 v3.toNatClampNeg x13) (fun sg15 => lt (v3 + (1 : Int32)) (fun x16 => r18 (v1, v2, x16, sg15))))))))))))
set_option maxHeartbeats 4000000 in
set_option maxRecDepth 100000 in
theorem tX7_weighMoves_18 (C : Cx p s m args meth c cX7_weighMoves 4 RX7 wsX7_weighMoves none D vwCl (tysC T) A true nwL) {so : Sg} {r18 : (Int32 × Int32 × Int32 × Sg) → Option (Sg)} (hr18 : ∀ (v1 : Int32) (v2 : Int32) (v3 : Int32) (sg : Sg), r18 (v1, v2, v3, sg) = some so → ∀ (H : Heap) (locs : List Loc) (ls : Array Slot), WS ZC D vwCl T ad sg lg A s.heap H locs → lv_has ls 4 [(0, .ref (ad 6)), (1, .int v1), (2, .int v2), (3, .int v3)] → W p l e rmX7_weighMoves s m args below meth c H locs 0 0 (MQ below (QV ZC D vwCl T (tysC T) A (fun z => ad = z) so lg) args s 0 0 A) (F0 m 18 ls [])) : ∀ (v1 : Int32) (v2 : Int32) (v3 : Int32) (sg : Sg), ∀ (H : Heap) (locs : List Loc) (ls : Array Slot), WS ZC D vwCl T ad sg lg A s.heap H locs → lv_has ls 4 [(0, .ref (ad 6)), (1, .int v1), (2, .int v2), (3, .int v3)] → fX7_weighMoves_18 r18 v1 v2 v3 sg = some so → W p l e rmX7_weighMoves s m args below meth c H locs 0 0 (MQ below (QV ZC D vwCl T (tysC T) A (fun z => ad = z) so lg) args s 0 0 A) (F0 m 18 ls []) := by
  obtain ⟨⟨hx, hb, hml, hown, hts⟩, hr, hlk, hK, hA, hsp⟩ := id C
  intro v1 v2 v3 sg H locs ls hw hl h
  unfold fX7_weighMoves_18 at h
  refine lv_iload_n hx hb dX7_weighMoves_18 rfl (lv_at hl 3 rfl) ?_
  refine lv_aload_n hx hb dX7_weighMoves_19 rfl (lv_at hl 0 rfl) ?_
  refine r_getR (ci := 7) (C := RX7) (U := TX7) (N := 4) hx hb hts kX7_weighMoves_iX7 hown hK hw 6 (by decide) rfl rfl 0 (by decide) 3 rfl (hts _ kX7_weighMoves_f21) (fun _ h9 => h9) dX7_weighMoves_20 ?_
  refine r_getI (ci := 8) (C := RX8) (U := TX8) (N := 10) hx hb hts kX7_weighMoves_iX8 hown hK hw 3 (by decide) rfl rfl 2 (by decide) rfl (hts _ kX7_weighMoves_f36) (fun _ h9 => h9) dX7_weighMoves_23 ?_
  refine lv_icmp_ge (tgt := 79) hx hb dX7_weighMoves_26 (by decide) (fun c1 => ?_) (fun c1 => ?_)
  · replace h := ite_t h c1
    refine lv_iload_n hx hb dX7_weighMoves_79 rfl (lv_at hl 1 rfl) ?_
    refine lv_iconst (v := (1 : Int32)) hx hb dX7_weighMoves_80 (by decide) ?_
    refine lv_isub hx hb dX7_weighMoves_81 ?_
    refine lv_topi (fun x2 ex2 => ?_)
    replace h := lt_get h x2 ex2
    refine lv_istore_n (lv' := [(3, .int x2), (0, .ref (ad 6)), (1, .int v1), (2, .int v2)]) hx hb dX7_weighMoves_82 rfl hl (by decide) rfl (fun ls hl => ?_)
    exact TX7_weighMoves_83 C v2 x2 sg h _ _ _ hw (lv_sub hl [1, 3, 0] rfl)
  · replace h := ite_f h c1
    refine lv_aload_n hx hb dX7_weighMoves_29 rfl (lv_at hl 0 rfl) ?_
    refine r_getR (ci := 7) (C := RX7) (U := TX7) (N := 4) hx hb hts kX7_weighMoves_iX7 hown hK hw 6 (by decide) rfl rfl 3 (by decide) 34 rfl (hts _ kX7_weighMoves_f18) (fun _ h9 => h9) dX7_weighMoves_30 ?_
    refine lv_iload_n hx hb dX7_weighMoves_33 rfl (lv_at hl 3 rfl) ?_
    refine lv_aload_n hx hb dX7_weighMoves_34 rfl (lv_at hl 0 rfl) ?_
    refine r_getR (ci := 7) (C := RX7) (U := TX7) (N := 4) hx hb hts kX7_weighMoves_iX7 hown hK hw 6 (by decide) rfl rfl 3 (by decide) 34 rfl (hts _ kX7_weighMoves_f18) (fun _ h9 => h9) dX7_weighMoves_35 ?_
    refine lv_iload_n hx hb dX7_weighMoves_38 rfl (lv_at hl 3 rfl) ?_
    refine lv_iconst (v := (1 : Int32)) hx hb dX7_weighMoves_39 (by decide) ?_
    refine lv_isub hx hb dX7_weighMoves_40 ?_
    refine lv_topi (fun x3 ex3 => ?_)
    replace h := lt_get h x3 ex3
    have hi4 := (gin_some h).1
    replace h := (gin_some h).2
    refine r_iald hx hb hK hw 34 0 12 (by decide) rfl rfl rfl hi4 dX7_weighMoves_41 ?_
    refine lv_aload_n hx hb dX7_weighMoves_42 rfl (lv_at hl 0 rfl) ?_
    refine r_getR (ci := 7) (C := RX7) (U := TX7) (N := 4) hx hb hts kX7_weighMoves_iX7 hown hK hw 6 (by decide) rfl rfl 0 (by decide) 3 rfl (hts _ kX7_weighMoves_f21) (fun _ h9 => h9) dX7_weighMoves_43 ?_
    refine lv_iload_n hx hb dX7_weighMoves_46 rfl (lv_at hl 2 rfl) ?_
    refine lv_aload_n hx hb dX7_weighMoves_47 rfl (lv_at hl 0 rfl) ?_
    refine r_getR (ci := 7) (C := RX7) (U := TX7) (N := 4) hx hb hts kX7_weighMoves_iX7 hown hK hw 6 (by decide) rfl rfl 1 (by decide) 32 rfl (hts _ kX7_weighMoves_f9) (fun _ h9 => h9) dX7_weighMoves_48 ?_
    refine lv_iload_n hx hb dX7_weighMoves_51 rfl (lv_at hl 3 rfl) ?_
    have hi5 := (gin_some h).1
    replace h := (gin_some h).2
    refine r_iald hx hb hK hw 32 0 12 (by decide) rfl rfl rfl hi5 dX7_weighMoves_52 ?_
    obtain ⟨y6, sg7, hq8, h2⟩ := bnd2_some h
    replace h := h2
    clear h2
    refine r_cVi (As := [.int v2, .int (sg 32 v3.toNatClampNeg)]) (rest := [.int (sg 34 x3.toNatClampNeg), .int v3, .ref (ad 34)]) C hw 3 (by decide) (ci := 8) rfl rfl (mX8_peckOf l D T ad lg H.size v2 (sg 32 v3.toNatClampNeg) sg hq8) (cwV 2 hts gX7_weighMoves_X8_peckOf rfl rfl rfl (by decide +kernel) ⟨Nat.le_of_ble_eq_true rfl, Nat.le_of_ble_eq_true rfl⟩) rfl hl.1 rfl (Nat.le_of_ble_eq_true rfl) dX7_weighMoves_53 ⟨Nat.le_of_ble_eq_true rfl, Nat.le_of_ble_eq_true rfl⟩ (fun ad' H locs hp hw => ?_)
    subst hp
    refine W.widen (k := 0) (n := 0) (by decide) (by decide) ?_
    refine lv_iadd hx hb dX7_weighMoves_56 ?_
    refine lv_aload_n hx hb dX7_weighMoves_57 rfl (lv_at hl 0 rfl) ?_
    refine r_getR (ci := 7) (C := RX7) (U := TX7) (N := 4) hx hb hts kX7_weighMoves_iX7 hown hK hw 6 (by decide) rfl rfl 0 (by decide) 3 rfl (hts _ kX7_weighMoves_f21) (fun _ h9 => h9) dX7_weighMoves_58 ?_
    refine lv_aload_n hx hb dX7_weighMoves_61 rfl (lv_at hl 0 rfl) ?_
    refine r_getR (ci := 7) (C := RX7) (U := TX7) (N := 4) hx hb hts kX7_weighMoves_iX7 hown hK hw 6 (by decide) rfl rfl 1 (by decide) 32 rfl (hts _ kX7_weighMoves_f9) (fun _ h9 => h9) dX7_weighMoves_62 ?_
    refine lv_iload_n hx hb dX7_weighMoves_65 rfl (lv_at hl 3 rfl) ?_
    have hi9 := (gin_some h).1
    replace h := (gin_some h).2
    refine r_iald hx hb hK hw 32 0 12 (by decide) rfl rfl rfl hi9 dX7_weighMoves_66 ?_
    refine lv_iload_n hx hb dX7_weighMoves_67 rfl (lv_at hl 2 rfl) ?_
    obtain ⟨y10, sg11, hq12, h2⟩ := bnd2_some h
    replace h := h2
    clear h2
    refine r_cVi (As := [.int (sg7 32 v3.toNatClampNeg), .int v2]) (rest := [.int ((sg 34 x3.toNatClampNeg) + y6), .int v3, .ref (ad 34)]) C hw 3 (by decide) (ci := 8) rfl rfl (mX8_peckOf l D T ad lg H.size (sg7 32 v3.toNatClampNeg) v2 sg7 hq12) (cwV 2 hts gX7_weighMoves_X8_peckOf rfl rfl rfl (by decide +kernel) ⟨Nat.le_of_ble_eq_true rfl, Nat.le_of_ble_eq_true rfl⟩) rfl hl.1 rfl (Nat.le_of_ble_eq_true rfl) dX7_weighMoves_68 ⟨Nat.le_of_ble_eq_true rfl, Nat.le_of_ble_eq_true rfl⟩ (fun ad' H locs hp hw => ?_)
    subst hp
    refine W.widen (k := 0) (n := 0) (by decide) (by decide) ?_
    refine lv_isub hx hb dX7_weighMoves_71 ?_
    refine lv_topi (fun x13 ex13 => ?_)
    replace h := lt_get h x13 ex13
    have hi14 := (gin_some h).1
    replace h := (gin_some h).2
    refine r_iast ZC_ok hx hb hK hw 34 0 12 (by decide) rfl rfl rfl hi14 dX7_weighMoves_72 (fun H locs sg15 esg15 hw => ?_)
    replace h := lt_get h sg15 esg15
    obtain ⟨x16, ex16⟩ : ∃ z : Int32, z = (v3 + (1 : Int32)) := ⟨_, rfl⟩
    replace h := lt_get h x16 ex16
    refine lv_iinc (v := x16) (lv' := [(3, .int x16), (0, .ref (ad 6)), (1, .int v1), (2, .int v2)]) hx hb dX7_weighMoves_73 hl (k := 3) rfl (by rw [ex16]; rfl) (by decide) rfl (fun ls hl => ?_)
    refine lv_goto (tgt := 18) hx hb dX7_weighMoves_76 (by decide) ?_
    exact hr18 v1 v2 x16 sg15 h _ _ _ hw (lv_sub hl [1, 2, 3, 0] rfl)
def LX7_weighMoves_18  : (Int32 × Int32 × Int32 × Sg) → Option (Sg) := loop (fun rec z => fX7_weighMoves_18 rec z.1 z.2.1 z.2.2.1 z.2.2.2)
theorem TX7_weighMoves_18 (C : Cx p s m args meth c cX7_weighMoves 4 RX7 wsX7_weighMoves none D vwCl (tysC T) A true nwL) {so : Sg}   : ∀ (v1 : Int32) (v2 : Int32) (v3 : Int32) (sg : Sg), LX7_weighMoves_18 (v1, v2, v3, sg) = some so → ∀ (H : Heap) (locs : List Loc) (ls : Array Slot), WS ZC D vwCl T ad sg lg A s.heap H locs → lv_has ls 4 [(0, .ref (ad 6)), (1, .int v1), (2, .int v2), (3, .int v3)] → W p l e rmX7_weighMoves s m args below meth c H locs 0 0 (MQ below (QV ZC D vwCl T (tysC T) A (fun z => ad = z) so lg) args s 0 0 A) (F0 m 18 ls []) := by
  have key : ∀ z : (Int32 × Int32 × Int32 × Sg), LX7_weighMoves_18  z = some so → ∀ (H : Heap) (locs : List Loc) (ls : Array Slot), WS ZC D vwCl T ad z.2.2.2 lg A s.heap H locs → lv_has ls 4 [(0, .ref (ad 6)), (1, .int z.1), (2, .int z.2.1), (3, .int z.2.2.1)] → W p l e rmX7_weighMoves s m args below meth c H locs 0 0 (MQ below (QV ZC D vwCl T (tysC T) A (fun z => ad = z) so lg) args s 0 0 A) (F0 m 18 ls []) := by
    intro z h
    unfold LX7_weighMoves_18 at h
    exact loop_ind (fun rec z => fX7_weighMoves_18 rec z.1 z.2.1 z.2.2.1 z.2.2.2) (y := so) (P := fun z => ∀ (H : Heap) (locs : List Loc) (ls : Array Slot), WS ZC D vwCl T ad z.2.2.2 lg A s.heap H locs → lv_has ls 4 [(0, .ref (ad 6)), (1, .int z.1), (2, .int z.2.1), (3, .int z.2.2.1)] → W p l e rmX7_weighMoves s m args below meth c H locs 0 0 (MQ below (QV ZC D vwCl T (tysC T) A (fun z => ad = z) so lg) args s 0 0 A) (F0 m 18 ls [])) (fun rec hrec z h H locs ls hw hl => tX7_weighMoves_18 C  (fun v1 v2 v3 sg => hrec (v1, v2, v3, sg)) z.1 z.2.1 z.2.2.1 z.2.2.2 H locs ls hw hl h) z h
  exact fun v1 v2 v3 sg => key (v1, v2, v3, sg)
def fX7_weighMoves  (v1 : Int32) (sg : Sg) : Option (Sg) :=
  gin v1 12 (lt (sg 32 v1.toNatClampNeg) (fun x2 => gin v1 12 (lt (up2 sg 34 v1.toNatClampNeg (0 : Int32)) (fun sg4 => lt (v1 + (1 : Int32)) (fun x5 => LX7_weighMoves_18 (v1, x2, x5, sg4))))))
set_option maxHeartbeats 4000000 in
set_option maxRecDepth 100000 in
theorem tX7_weighMoves_0 (C : Cx p s m args meth c cX7_weighMoves 4 RX7 wsX7_weighMoves none D vwCl (tysC T) A true nwL) {so : Sg}   : ∀ (v1 : Int32) (sg : Sg), ∀ (H : Heap) (locs : List Loc) (ls : Array Slot), WS ZC D vwCl T ad sg lg A s.heap H locs → lv_has ls 4 [(0, .ref (ad 6)), (1, .int v1)] → fX7_weighMoves v1 sg = some so → W p l e rmX7_weighMoves s m args below meth c H locs 0 0 (MQ below (QV ZC D vwCl T (tysC T) A (fun z => ad = z) so lg) args s 0 0 A) (F0 m 0 ls []) := by
  obtain ⟨⟨hx, hb, hml, hown, hts⟩, hr, hlk, hK, hA, hsp⟩ := id C
  intro v1 sg H locs ls hw hl h
  unfold fX7_weighMoves at h
  refine lv_aload_n hx hb dX7_weighMoves_0 rfl (lv_at hl 0 rfl) ?_
  refine r_getR (ci := 7) (C := RX7) (U := TX7) (N := 4) hx hb hts kX7_weighMoves_iX7 hown hK hw 6 (by decide) rfl rfl 1 (by decide) 32 rfl (hts _ kX7_weighMoves_f9) (fun _ h9 => h9) dX7_weighMoves_1 ?_
  refine lv_iload_n hx hb dX7_weighMoves_4 rfl (lv_at hl 1 rfl) ?_
  have hi1 := (gin_some h).1
  replace h := (gin_some h).2
  refine r_iald hx hb hK hw 32 0 12 (by decide) rfl rfl rfl hi1 dX7_weighMoves_5 ?_
  refine lv_topi (fun x2 ex2 => ?_)
  replace h := lt_get h x2 ex2
  refine lv_istore_n (lv' := [(2, .int x2), (0, .ref (ad 6)), (1, .int v1)]) hx hb dX7_weighMoves_6 rfl hl (by decide) rfl (fun ls hl => ?_)
  refine lv_aload_n hx hb dX7_weighMoves_7 rfl (lv_at hl 1 rfl) ?_
  refine r_getR (ci := 7) (C := RX7) (U := TX7) (N := 4) hx hb hts kX7_weighMoves_iX7 hown hK hw 6 (by decide) rfl rfl 3 (by decide) 34 rfl (hts _ kX7_weighMoves_f18) (fun _ h9 => h9) dX7_weighMoves_8 ?_
  refine lv_iload_n hx hb dX7_weighMoves_11 rfl (lv_at hl 2 rfl) ?_
  refine lv_iconst (v := (0 : Int32)) hx hb dX7_weighMoves_12 (by decide) ?_
  have hi3 := (gin_some h).1
  replace h := (gin_some h).2
  refine r_iast ZC_ok hx hb hK hw 34 0 12 (by decide) rfl rfl rfl hi3 dX7_weighMoves_13 (fun H locs sg4 esg4 hw => ?_)
  replace h := lt_get h sg4 esg4
  refine lv_iload_n hx hb dX7_weighMoves_14 rfl (lv_at hl 2 rfl) ?_
  refine lv_iconst (v := (1 : Int32)) hx hb dX7_weighMoves_15 (by decide) ?_
  refine lv_iadd hx hb dX7_weighMoves_16 ?_
  refine lv_topi (fun x5 ex5 => ?_)
  replace h := lt_get h x5 ex5
  refine lv_istore_n (lv' := [(3, .int x5), (2, .int x2), (0, .ref (ad 6)), (1, .int v1)]) hx hb dX7_weighMoves_17 rfl hl (by decide) rfl (fun ls hl => ?_)
  exact TX7_weighMoves_18 C v1 x2 x5 sg4 h _ _ _ hw (lv_sub hl [2, 3, 1, 0] rfl)
theorem mX7_weighMoves (l : Launch) (D : va_G) (T : Nat → ClassId) (ad : Nat → Nat) (lg : Lg) (sz : Nat)   (v1 : Int32) (sg : Sg) {so : Sg} (h : fX7_weighMoves v1 sg = some so) : Met l yX7_weighMoves wsX7_weighMoves rmX7_weighMoves (PreZ ZC D vwCl T (tysC T) ad sg lg true nwL [.ref (ad 6), .int v1] sz) (QV ZC D vwCl T (tysC T) (va_A (zwd ZC T ad sg lg) sz) (fun z => ad = z) so lg) 0 0 (va_A (zwd ZC T ad sg lg) sz) :=
  metZ [.ref (ad 6), .int v1] sz (by decide) rfl (Nat.le_of_ble_eq_true rfl) (fun p e s m below meth c ls C hw hl => tX7_weighMoves_0 C v1 sg _ _ _ hw hl h)
-- PeckYard$Line.isLawfulAfter(II)Z
def rmX7_isLawfulAfter : Room := { frames := 2, cells := 0, slots := 0, locals := 47 }
theorem kX7_isLawfulAfter_c56 : Cond.constantLong RX7 56 (-2000000005) ∈ wsX7_isLawfulAfter := by decide +kernel
def fX7_isLawfulAfter_22  (v1 : Int32) (v2 : Int32) (w0 : Int32) (sg : Sg) : Option (Int32 × Sg) :=
  bnd1 (fX7_moveSlot v2 v1 sg) (fun sg1 => gz w0 (some (w0, sg1)))
set_option maxHeartbeats 4000000 in
set_option maxRecDepth 100000 in
theorem tX7_isLawfulAfter_22 (C : Cx p s m args meth c cX7_isLawfulAfter 4 RX7 wsX7_isLawfulAfter (some .boolean) D vwCl (tysC T) A true nwL) {ro : Int32} {so : Sg}   : ∀ (v1 : Int32) (v2 : Int32) (w0 : Int32) (sg : Sg), ∀ (H : Heap) (locs : List Loc) (ls : Array Slot), WS ZC D vwCl T ad sg lg A s.heap H locs → lv_has ls 4 [(0, .ref (ad 6)), (1, .int v1), (2, .int v2)] → fX7_isLawfulAfter_22 v1 v2 w0 sg = some (ro, so) → W p l e rmX7_isLawfulAfter s m args below meth c H locs 0 0 (MQ below (QI ZC D vwCl T (tysC T) A (fun z => ad = z) ro so lg) args s 0 0 A) (F0 m 22 ls [.int w0]) := by
  obtain ⟨⟨hx, hb, hml, hown, hts⟩, hr, hlk, hK, hA, hsp⟩ := id C
  intro v1 v2 w0 sg H locs ls hw hl h
  unfold fX7_isLawfulAfter_22 at h
  refine lv_istore_n (lv' := [(3, .int w0), (0, .ref (ad 6)), (1, .int v1), (2, .int v2)]) hx hb dX7_isLawfulAfter_22 rfl hl (by decide) rfl (fun ls hl => ?_)
  refine lv_aload_n hx hb dX7_isLawfulAfter_23 rfl (lv_at hl 1 rfl) ?_
  refine lv_iload_n hx hb dX7_isLawfulAfter_24 rfl (lv_at hl 3 rfl) ?_
  refine lv_iload_n hx hb dX7_isLawfulAfter_25 rfl (lv_at hl 2 rfl) ?_
  obtain ⟨sg1, hq2, h2⟩ := bnd1_some h
  replace h := h2
  clear h2
  refine r_cVv (As := [.int v2, .int v1]) (rest := []) C hw 6 (by decide) (ci := 7) rfl rfl (mX7_moveSlot l D T ad lg H.size v2 v1 sg hq2) (cwV 2 hts gX7_isLawfulAfter_X7_moveSlot rfl rfl rfl (by decide +kernel) ⟨Nat.le_of_ble_eq_true rfl, Nat.le_of_ble_eq_true rfl⟩) rfl hl.1 rfl (Nat.le_of_ble_eq_true rfl) dX7_isLawfulAfter_26 ⟨Nat.le_of_ble_eq_true rfl, Nat.le_of_ble_eq_true rfl⟩ (fun ad' H locs hp hw => ?_)
  subst hp
  refine W.widen (k := 0) (n := 0) (by decide) (by decide) ?_
  refine lv_iload_n hx hb dX7_isLawfulAfter_29 rfl (lv_at hl 0 rfl) ?_
  have hz3 := (gz_some h).1
  replace h := (gz_some h).2
  cases h
  exact r_zret C hw rfl hz3 (by decide) (by decide) dX7_isLawfulAfter_30
def fX7_isLawfulAfter  (v1 : Int32) (v2 : Int32) (sg : Sg) : Option (Int32 × Sg) :=
  bnd1 (fX7_moveSlot v1 v2 sg) (fun sg1 => bnd2 (fX7_leastFault sg1) (fun y3 sg4 => (if y3 = (-2000000005 : Int64) then fX7_isLawfulAfter_22 v1 v2 (1 : Int32) sg4 else fX7_isLawfulAfter_22 v1 v2 (0 : Int32) sg4)))
set_option maxHeartbeats 4000000 in
set_option maxRecDepth 100000 in
theorem tX7_isLawfulAfter_0 (C : Cx p s m args meth c cX7_isLawfulAfter 4 RX7 wsX7_isLawfulAfter (some .boolean) D vwCl (tysC T) A true nwL) {ro : Int32} {so : Sg}   : ∀ (v1 : Int32) (v2 : Int32) (sg : Sg), ∀ (H : Heap) (locs : List Loc) (ls : Array Slot), WS ZC D vwCl T ad sg lg A s.heap H locs → lv_has ls 4 [(0, .ref (ad 6)), (1, .int v1), (2, .int v2)] → fX7_isLawfulAfter v1 v2 sg = some (ro, so) → W p l e rmX7_isLawfulAfter s m args below meth c H locs 0 0 (MQ below (QI ZC D vwCl T (tysC T) A (fun z => ad = z) ro so lg) args s 0 0 A) (F0 m 0 ls []) := by
  obtain ⟨⟨hx, hb, hml, hown, hts⟩, hr, hlk, hK, hA, hsp⟩ := id C
  intro v1 v2 sg H locs ls hw hl h
  unfold fX7_isLawfulAfter at h
  refine lv_aload_n hx hb dX7_isLawfulAfter_0 rfl (lv_at hl 0 rfl) ?_
  refine lv_iload_n hx hb dX7_isLawfulAfter_1 rfl (lv_at hl 1 rfl) ?_
  refine lv_iload_n hx hb dX7_isLawfulAfter_2 rfl (lv_at hl 2 rfl) ?_
  obtain ⟨sg1, hq2, h2⟩ := bnd1_some h
  replace h := h2
  clear h2
  refine r_cVv (As := [.int v1, .int v2]) (rest := []) C hw 6 (by decide) (ci := 7) rfl rfl (mX7_moveSlot l D T ad lg H.size v1 v2 sg hq2) (cwV 2 hts gX7_isLawfulAfter_X7_moveSlot rfl rfl rfl (by decide +kernel) ⟨Nat.le_of_ble_eq_true rfl, Nat.le_of_ble_eq_true rfl⟩) rfl hl.1 rfl (Nat.le_of_ble_eq_true rfl) dX7_isLawfulAfter_3 ⟨Nat.le_of_ble_eq_true rfl, Nat.le_of_ble_eq_true rfl⟩ (fun ad' H locs hp hw => ?_)
  subst hp
  refine W.widen (k := 0) (n := 0) (by decide) (by decide) ?_
  refine lv_aload_n hx hb dX7_isLawfulAfter_6 rfl (lv_at hl 0 rfl) ?_
  obtain ⟨y3, sg4, hq5, h2⟩ := bnd2_some h
  replace h := h2
  clear h2
  refine r_cVl (As := []) (rest := []) C hw 6 (by decide) (ci := 7) rfl rfl (mX7_leastFault l D T ad lg H.size sg1 hq5) (cwV 0 hts gX7_isLawfulAfter_X7_leastFault rfl rfl rfl (by decide +kernel) ⟨Nat.le_of_ble_eq_true rfl, Nat.le_of_ble_eq_true rfl⟩) rfl hl.1 rfl (Nat.le_of_ble_eq_true rfl) dX7_isLawfulAfter_7 ⟨Nat.le_of_ble_eq_true rfl, Nat.le_of_ble_eq_true rfl⟩ (fun ad' H locs hp hw => ?_)
  subst hp
  refine W.widen (k := 0) (n := 0) (by decide) (by decide) ?_
  refine lv_ldc2 hx hb hown (hts _ kX7_isLawfulAfter_c56) dX7_isLawfulAfter_10 ?_
  refine W.lcmp hx hb dX7_isLawfulAfter_13 ?_
  refine lv_if_ne (tgt := 21) hx hb dX7_isLawfulAfter_14 (by decide) (fun c6 => ?_) (fun c6 => ?_)
  · replace h := ite_f h (fun z => c6 ((lg_cmp_eq _ _).mpr z))
    refine lv_iconst (v := (0 : Int32)) hx hb dX7_isLawfulAfter_21 (by decide) ?_
    exact tX7_isLawfulAfter_22 C v1 v2 (0 : Int32) sg4 _ _ _ hw (lv_sub hl [0, 1, 2] rfl) h
  · replace h := ite_t h ((lg_cmp_eq _ _).mp c6)
    refine lv_iconst (v := (1 : Int32)) hx hb dX7_isLawfulAfter_17 (by decide) ?_
    refine lv_goto (tgt := 22) hx hb dX7_isLawfulAfter_18 (by decide) ?_
    exact tX7_isLawfulAfter_22 C v1 v2 (1 : Int32) sg4 _ _ _ hw (lv_sub hl [0, 1, 2] rfl) h
theorem mX7_isLawfulAfter (l : Launch) (D : va_G) (T : Nat → ClassId) (ad : Nat → Nat) (lg : Lg) (sz : Nat)   (v1 : Int32) (v2 : Int32) (sg : Sg) {ro : Int32} {so : Sg} (h : fX7_isLawfulAfter v1 v2 sg = some (ro, so)) : Met l yX7_isLawfulAfter wsX7_isLawfulAfter rmX7_isLawfulAfter (PreZ ZC D vwCl T (tysC T) ad sg lg true nwL [.ref (ad 6), .int v1, .int v2] sz) (QI ZC D vwCl T (tysC T) (va_A (zwd ZC T ad sg lg) sz) (fun z => ad = z) ro so lg) 0 0 (va_A (zwd ZC T ad sg lg) sz) :=
  metZ [.ref (ad 6), .int v1, .int v2] sz (by decide) rfl (Nat.le_of_ble_eq_true rfl) (fun p e s m below meth c ls C hw hl => tX7_isLawfulAfter_0 C v1 v2 sg _ _ _ hw hl h)
-- PeckYard$Line.improve()Z
def rmX7_improve : Room := { frames := 3, cells := 0, slots := 0, locals := 70 }
theorem kX7_improve_f21 : Cond.fieldLink RX7 21 "PeckYard$Line" "muster" "LPeckYard$Muster;" ∈ wsX7_improve := by decide +kernel
theorem kX7_improve_iX7 : ∀ w ∈ u_ws RX7 TX7 4, w ∈ wsX7_improve := by decide +kernel
theorem kX7_improve_f36 : Cond.fieldLink RX7 36 "PeckYard$Muster" "size" "I" ∈ wsX7_improve := by decide +kernel
theorem kX7_improve_iX8 : ∀ w ∈ u_ws RX8 TX8 10, w ∈ wsX7_improve := by decide +kernel
theorem kX7_improve_f15 : Cond.fieldLink RX7 15 "PeckYard$Line" "place" "[I" ∈ wsX7_improve := by decide +kernel
theorem kX7_improve_f18 : Cond.fieldLink RX7 18 "PeckYard$Line" "heavier" "[I" ∈ wsX7_improve := by decide +kernel
def fX7_improve_87 (r9 : (Int32 × Int32 × Int32 × Int32 × Sg) → Option (Int32 × Sg)) (r39 : (Int32 × Int32 × Int32 × Int32 × Int32 × Int32 × Sg) → Option (Int32 × Sg)) (v1 : Int32) (v2 : Int32) (v3 : Int32) (v4 : Int32) (v5 : Int32) (v6 : Int32) (sg : Sg) : Option (Int32 × Sg) :=
  lt (v6 + (1 : Int32)) (fun x1 => r39 (v1, v2, v3, v4, v5, x1, sg))
set_option maxHeartbeats 4000000 in
set_option maxRecDepth 100000 in
theorem tX7_improve_87 (C : Cx p s m args meth c cX7_improve 7 RX7 wsX7_improve (some .boolean) D vwCl (tysC T) A true nwL) {ro : Int32} {so : Sg} {r9 : (Int32 × Int32 × Int32 × Int32 × Sg) → Option (Int32 × Sg)} {r39 : (Int32 × Int32 × Int32 × Int32 × Int32 × Int32 × Sg) → Option (Int32 × Sg)} (hr9 : ∀ (v1 : Int32) (v2 : Int32) (v3 : Int32) (v4 : Int32) (sg : Sg), r9 (v1, v2, v3, v4, sg) = some (ro, so) → ∀ (H : Heap) (locs : List Loc) (ls : Array Slot), WS ZC D vwCl T ad sg lg A s.heap H locs → lv_has ls 7 [(0, .ref (ad 6)), (1, .int v1), (2, .int v2), (3, .int v3), (4, .int v4)] → W p l e rmX7_improve s m args below meth c H locs 0 0 (MQ below (QI ZC D vwCl T (tysC T) A (fun z => ad = z) ro so lg) args s 0 0 A) (F0 m 9 ls [])) (hr39 : ∀ (v1 : Int32) (v2 : Int32) (v3 : Int32) (v4 : Int32) (v5 : Int32) (v6 : Int32) (sg : Sg), r39 (v1, v2, v3, v4, v5, v6, sg) = some (ro, so) → ∀ (H : Heap) (locs : List Loc) (ls : Array Slot), WS ZC D vwCl T ad sg lg A s.heap H locs → lv_has ls 7 [(0, .ref (ad 6)), (1, .int v1), (2, .int v2), (3, .int v3), (4, .int v4), (5, .int v5), (6, .int v6)] → W p l e rmX7_improve s m args below meth c H locs 0 0 (MQ below (QI ZC D vwCl T (tysC T) A (fun z => ad = z) ro so lg) args s 0 0 A) (F0 m 39 ls [])) : ∀ (v1 : Int32) (v2 : Int32) (v3 : Int32) (v4 : Int32) (v5 : Int32) (v6 : Int32) (sg : Sg), ∀ (H : Heap) (locs : List Loc) (ls : Array Slot), WS ZC D vwCl T ad sg lg A s.heap H locs → lv_has ls 7 [(0, .ref (ad 6)), (1, .int v1), (2, .int v2), (3, .int v3), (4, .int v4), (5, .int v5), (6, .int v6)] → fX7_improve_87 r9 r39 v1 v2 v3 v4 v5 v6 sg = some (ro, so) → W p l e rmX7_improve s m args below meth c H locs 0 0 (MQ below (QI ZC D vwCl T (tysC T) A (fun z => ad = z) ro so lg) args s 0 0 A) (F0 m 87 ls []) := by
  obtain ⟨⟨hx, hb, hml, hown, hts⟩, hr, hlk, hK, hA, hsp⟩ := id C
  intro v1 v2 v3 v4 v5 v6 sg H locs ls hw hl h
  unfold fX7_improve_87 at h
  obtain ⟨x1, ex1⟩ : ∃ z : Int32, z = (v6 + (1 : Int32)) := ⟨_, rfl⟩
  replace h := lt_get h x1 ex1
  refine lv_iinc (v := x1) (lv' := [(6, .int x1), (0, .ref (ad 6)), (1, .int v1), (2, .int v2), (3, .int v3), (4, .int v4), (5, .int v5)]) hx hb dX7_improve_87 hl (k := 6) rfl (by rw [ex1]; rfl) (by decide) rfl (fun ls hl => ?_)
  refine lv_goto (tgt := 39) hx hb dX7_improve_90 (by decide) ?_
  exact hr39 v1 v2 v3 v4 v5 x1 sg h _ _ _ hw (lv_sub hl [1, 2, 3, 4, 5, 6, 0] rfl)
def fX7_improve_39 (r9 : (Int32 × Int32 × Int32 × Int32 × Sg) → Option (Int32 × Sg)) (r39 : (Int32 × Int32 × Int32 × Int32 × Int32 × Int32 × Sg) → Option (Int32 × Sg)) (v1 : Int32) (v2 : Int32) (v3 : Int32) (v4 : Int32) (v5 : Int32) (v6 : Int32) (sg : Sg) : Option (Int32 × Sg) :=
  (if (sg 3 2) ≤ v6 then lt (v4 + (1 : Int32)) (fun x2 => r9 (v1, v2, v3, x2, sg)) else gin v6 12 ((if v1 ≤ (sg 34 v6.toNatClampNeg) then fX7_improve_87 r9 r39 v1 v2 v3 v4 v5 v6 sg else bnd2 (fX7_isLawfulAfter v5 v6 sg) (fun y5 sg6 => (if y5 = 0 then fX7_improve_87 r9 r39 v1 v2 v3 v4 v5 v6 sg6 else gin v6 12 (lt (sg6 34 v6.toNatClampNeg) (fun x10 => fX7_improve_87 r9 r39 x10 v5 v6 v4 v5 v6 sg6)))))))
set_option maxHeartbeats 4000000 in
set_option maxRecDepth 100000 in
theorem tX7_improve_39 (C : Cx p s m args meth c cX7_improve 7 RX7 wsX7_improve (some .boolean) D vwCl (tysC T) A true nwL) {ro : Int32} {so : Sg} {r9 : (Int32 × Int32 × Int32 × Int32 × Sg) → Option (Int32 × Sg)} {r39 : (Int32 × Int32 × Int32 × Int32 × Int32 × Int32 × Sg) → Option (Int32 × Sg)} (hr9 : ∀ (v1 : Int32) (v2 : Int32) (v3 : Int32) (v4 : Int32) (sg : Sg), r9 (v1, v2, v3, v4, sg) = some (ro, so) → ∀ (H : Heap) (locs : List Loc) (ls : Array Slot), WS ZC D vwCl T ad sg lg A s.heap H locs → lv_has ls 7 [(0, .ref (ad 6)), (1, .int v1), (2, .int v2), (3, .int v3), (4, .int v4)] → W p l e rmX7_improve s m args below meth c H locs 0 0 (MQ below (QI ZC D vwCl T (tysC T) A (fun z => ad = z) ro so lg) args s 0 0 A) (F0 m 9 ls [])) (hr39 : ∀ (v1 : Int32) (v2 : Int32) (v3 : Int32) (v4 : Int32) (v5 : Int32) (v6 : Int32) (sg : Sg), r39 (v1, v2, v3, v4, v5, v6, sg) = some (ro, so) → ∀ (H : Heap) (locs : List Loc) (ls : Array Slot), WS ZC D vwCl T ad sg lg A s.heap H locs → lv_has ls 7 [(0, .ref (ad 6)), (1, .int v1), (2, .int v2), (3, .int v3), (4, .int v4), (5, .int v5), (6, .int v6)] → W p l e rmX7_improve s m args below meth c H locs 0 0 (MQ below (QI ZC D vwCl T (tysC T) A (fun z => ad = z) ro so lg) args s 0 0 A) (F0 m 39 ls [])) : ∀ (v1 : Int32) (v2 : Int32) (v3 : Int32) (v4 : Int32) (v5 : Int32) (v6 : Int32) (sg : Sg), ∀ (H : Heap) (locs : List Loc) (ls : Array Slot), WS ZC D vwCl T ad sg lg A s.heap H locs → lv_has ls 7 [(0, .ref (ad 6)), (1, .int v1), (2, .int v2), (3, .int v3), (4, .int v4), (5, .int v5), (6, .int v6)] → fX7_improve_39 r9 r39 v1 v2 v3 v4 v5 v6 sg = some (ro, so) → W p l e rmX7_improve s m args below meth c H locs 0 0 (MQ below (QI ZC D vwCl T (tysC T) A (fun z => ad = z) ro so lg) args s 0 0 A) (F0 m 39 ls []) := by
  obtain ⟨⟨hx, hb, hml, hown, hts⟩, hr, hlk, hK, hA, hsp⟩ := id C
  intro v1 v2 v3 v4 v5 v6 sg H locs ls hw hl h
  unfold fX7_improve_39 at h
  refine lv_iload hx hb dX7_improve_39 (lv_at hl 6 rfl) ?_
  refine lv_aload_n hx hb dX7_improve_41 rfl (lv_at hl 0 rfl) ?_
  refine r_getR (ci := 7) (C := RX7) (U := TX7) (N := 4) hx hb hts kX7_improve_iX7 hown hK hw 6 (by decide) rfl rfl 0 (by decide) 3 rfl (hts _ kX7_improve_f21) (fun _ h9 => h9) dX7_improve_42 ?_
  refine r_getI (ci := 8) (C := RX8) (U := TX8) (N := 10) hx hb hts kX7_improve_iX8 hown hK hw 3 (by decide) rfl rfl 2 (by decide) rfl (hts _ kX7_improve_f36) (fun _ h9 => h9) dX7_improve_45 ?_
  refine lv_icmp_ge (tgt := 93) hx hb dX7_improve_48 (by decide) (fun c1 => ?_) (fun c1 => ?_)
  · replace h := ite_t h c1
    obtain ⟨x2, ex2⟩ : ∃ z : Int32, z = (v4 + (1 : Int32)) := ⟨_, rfl⟩
    replace h := lt_get h x2 ex2
    refine lv_iinc (v := x2) (lv' := [(4, .int x2), (0, .ref (ad 6)), (1, .int v1), (2, .int v2), (3, .int v3), (5, .int v5), (6, .int v6)]) hx hb dX7_improve_93 hl (k := 4) rfl (by rw [ex2]; rfl) (by decide) rfl (fun ls hl => ?_)
    refine lv_goto (tgt := 9) hx hb dX7_improve_96 (by decide) ?_
    exact hr9 v1 v2 v3 x2 sg h _ _ _ hw (lv_sub hl [1, 2, 3, 4, 0] rfl)
  · replace h := ite_f h c1
    refine lv_aload_n hx hb dX7_improve_51 rfl (lv_at hl 0 rfl) ?_
    refine r_getR (ci := 7) (C := RX7) (U := TX7) (N := 4) hx hb hts kX7_improve_iX7 hown hK hw 6 (by decide) rfl rfl 3 (by decide) 34 rfl (hts _ kX7_improve_f18) (fun _ h9 => h9) dX7_improve_52 ?_
    refine lv_iload hx hb dX7_improve_55 (lv_at hl 6 rfl) ?_
    have hi3 := (gin_some h).1
    replace h := (gin_some h).2
    refine r_iald hx hb hK hw 34 0 12 (by decide) rfl rfl rfl hi3 dX7_improve_57 ?_
    refine lv_iload_n hx hb dX7_improve_58 rfl (lv_at hl 1 rfl) ?_
    refine lv_icmp_ge (tgt := 87) hx hb dX7_improve_59 (by decide) (fun c4 => ?_) (fun c4 => ?_)
    · replace h := ite_t h c4
      exact tX7_improve_87 C hr9 hr39 v1 v2 v3 v4 v5 v6 sg _ _ _ hw (lv_sub hl [0, 1, 2, 3, 4, 5, 6] rfl) h
    · replace h := ite_f h c4
      refine lv_aload_n hx hb dX7_improve_62 rfl (lv_at hl 0 rfl) ?_
      refine lv_iload hx hb dX7_improve_63 (lv_at hl 5 rfl) ?_
      refine lv_iload hx hb dX7_improve_65 (lv_at hl 6 rfl) ?_
      obtain ⟨y5, sg6, hq7, h2⟩ := bnd2_some h
      replace h := h2
      clear h2
      refine r_cVi (As := [.int v5, .int v6]) (rest := []) C hw 6 (by decide) (ci := 7) rfl rfl (mX7_isLawfulAfter l D T ad lg H.size v5 v6 sg hq7) (cwV 2 hts gX7_improve_X7_isLawfulAfter rfl rfl rfl (by decide +kernel) ⟨Nat.le_of_ble_eq_true rfl, Nat.le_of_ble_eq_true rfl⟩) rfl hl.1 rfl (Nat.le_of_ble_eq_true rfl) dX7_improve_67 ⟨Nat.le_of_ble_eq_true rfl, Nat.le_of_ble_eq_true rfl⟩ (fun ad' H locs hp hw => ?_)
      subst hp
      refine W.widen (k := 0) (n := 0) (by decide) (by decide) ?_
      refine lv_if_eq (tgt := 87) hx hb dX7_improve_70 (by decide) (fun c8 => ?_) (fun c8 => ?_)
      · replace h := ite_t h c8
        exact tX7_improve_87 C hr9 hr39 v1 v2 v3 v4 v5 v6 sg6 _ _ _ hw (lv_sub hl [0, 1, 2, 3, 4, 5, 6] rfl) h
      · replace h := ite_f h c8
        refine lv_aload_n hx hb dX7_improve_73 rfl (lv_at hl 0 rfl) ?_
        refine r_getR (ci := 7) (C := RX7) (U := TX7) (N := 4) hx hb hts kX7_improve_iX7 hown hK hw 6 (by decide) rfl rfl 3 (by decide) 34 rfl (hts _ kX7_improve_f18) (fun _ h9 => h9) dX7_improve_74 ?_
        refine lv_iload hx hb dX7_improve_77 (lv_at hl 6 rfl) ?_
        have hi9 := (gin_some h).1
        replace h := (gin_some h).2
        refine r_iald hx hb hK hw 34 0 12 (by decide) rfl rfl rfl hi9 dX7_improve_79 ?_
        refine lv_topi (fun x10 ex10 => ?_)
        replace h := lt_get h x10 ex10
        refine lv_istore_n (lv' := [(1, .int x10), (0, .ref (ad 6)), (2, .int v2), (3, .int v3), (4, .int v4), (5, .int v5), (6, .int v6)]) hx hb dX7_improve_80 rfl hl (by decide) rfl (fun ls hl => ?_)
        refine lv_iload hx hb dX7_improve_81 (lv_at hl 5 rfl) ?_
        refine lv_istore_n (lv' := [(2, .int v5), (1, .int x10), (0, .ref (ad 6)), (3, .int v3), (4, .int v4), (5, .int v5), (6, .int v6)]) hx hb dX7_improve_83 rfl hl (by decide) rfl (fun ls hl => ?_)
        refine lv_iload hx hb dX7_improve_84 (lv_at hl 6 rfl) ?_
        refine lv_istore_n (lv' := [(3, .int v6), (2, .int v5), (1, .int x10), (0, .ref (ad 6)), (4, .int v4), (5, .int v5), (6, .int v6)]) hx hb dX7_improve_86 rfl hl (by decide) rfl (fun ls hl => ?_)
        exact tX7_improve_87 C hr9 hr39 x10 v5 v6 v4 v5 v6 sg6 _ _ _ hw (lv_sub hl [3, 2, 1, 0, 4, 5, 6] rfl) h
def LX7_improve_39 (r9 : (Int32 × Int32 × Int32 × Int32 × Sg) → Option (Int32 × Sg)) : (Int32 × Int32 × Int32 × Int32 × Int32 × Int32 × Sg) → Option (Int32 × Sg) := loop (fun rec z => fX7_improve_39 r9 rec z.1 z.2.1 z.2.2.1 z.2.2.2.1 z.2.2.2.2.1 z.2.2.2.2.2.1 z.2.2.2.2.2.2)
theorem TX7_improve_39 (C : Cx p s m args meth c cX7_improve 7 RX7 wsX7_improve (some .boolean) D vwCl (tysC T) A true nwL) {ro : Int32} {so : Sg} {r9 : (Int32 × Int32 × Int32 × Int32 × Sg) → Option (Int32 × Sg)} (hr9 : ∀ (v1 : Int32) (v2 : Int32) (v3 : Int32) (v4 : Int32) (sg : Sg), r9 (v1, v2, v3, v4, sg) = some (ro, so) → ∀ (H : Heap) (locs : List Loc) (ls : Array Slot), WS ZC D vwCl T ad sg lg A s.heap H locs → lv_has ls 7 [(0, .ref (ad 6)), (1, .int v1), (2, .int v2), (3, .int v3), (4, .int v4)] → W p l e rmX7_improve s m args below meth c H locs 0 0 (MQ below (QI ZC D vwCl T (tysC T) A (fun z => ad = z) ro so lg) args s 0 0 A) (F0 m 9 ls [])) : ∀ (v1 : Int32) (v2 : Int32) (v3 : Int32) (v4 : Int32) (v5 : Int32) (v6 : Int32) (sg : Sg), LX7_improve_39 r9 (v1, v2, v3, v4, v5, v6, sg) = some (ro, so) → ∀ (H : Heap) (locs : List Loc) (ls : Array Slot), WS ZC D vwCl T ad sg lg A s.heap H locs → lv_has ls 7 [(0, .ref (ad 6)), (1, .int v1), (2, .int v2), (3, .int v3), (4, .int v4), (5, .int v5), (6, .int v6)] → W p l e rmX7_improve s m args below meth c H locs 0 0 (MQ below (QI ZC D vwCl T (tysC T) A (fun z => ad = z) ro so lg) args s 0 0 A) (F0 m 39 ls []) := by
  have key : ∀ z : (Int32 × Int32 × Int32 × Int32 × Int32 × Int32 × Sg), LX7_improve_39 r9 z = some (ro, so) → ∀ (H : Heap) (locs : List Loc) (ls : Array Slot), WS ZC D vwCl T ad z.2.2.2.2.2.2 lg A s.heap H locs → lv_has ls 7 [(0, .ref (ad 6)), (1, .int z.1), (2, .int z.2.1), (3, .int z.2.2.1), (4, .int z.2.2.2.1), (5, .int z.2.2.2.2.1), (6, .int z.2.2.2.2.2.1)] → W p l e rmX7_improve s m args below meth c H locs 0 0 (MQ below (QI ZC D vwCl T (tysC T) A (fun z => ad = z) ro so lg) args s 0 0 A) (F0 m 39 ls []) := by
    intro z h
    unfold LX7_improve_39 at h
    exact loop_ind (fun rec z => fX7_improve_39 r9 rec z.1 z.2.1 z.2.2.1 z.2.2.2.1 z.2.2.2.2.1 z.2.2.2.2.2.1 z.2.2.2.2.2.2) (y := (ro, so)) (P := fun z => ∀ (H : Heap) (locs : List Loc) (ls : Array Slot), WS ZC D vwCl T ad z.2.2.2.2.2.2 lg A s.heap H locs → lv_has ls 7 [(0, .ref (ad 6)), (1, .int z.1), (2, .int z.2.1), (3, .int z.2.2.1), (4, .int z.2.2.2.1), (5, .int z.2.2.2.2.1), (6, .int z.2.2.2.2.2.1)] → W p l e rmX7_improve s m args below meth c H locs 0 0 (MQ below (QI ZC D vwCl T (tysC T) A (fun z => ad = z) ro so lg) args s 0 0 A) (F0 m 39 ls [])) (fun rec hrec z h H locs ls hw hl => tX7_improve_39 C hr9 (fun v1 v2 v3 v4 v5 v6 sg => hrec (v1, v2, v3, v4, v5, v6, sg)) z.1 z.2.1 z.2.2.1 z.2.2.2.1 z.2.2.2.2.1 z.2.2.2.2.2.1 z.2.2.2.2.2.2 H locs ls hw hl h) z h
  exact fun v1 v2 v3 v4 v5 v6 sg => key (v1, v2, v3, v4, v5, v6, sg)
def fX7_improve_9 (r9 : (Int32 × Int32 × Int32 × Int32 × Sg) → Option (Int32 × Sg)) (v1 : Int32) (v2 : Int32) (v3 : Int32) (v4 : Int32) (sg : Sg) : Option (Int32 × Sg) :=
  (if (sg 3 2) ≤ v4 then (if v2 = (-1 : Int32) then some ((0 : Int32), sg) else bnd1 (fX7_moveSlot v2 v3 sg) (fun sg3 => some ((1 : Int32), sg3))) else gin v4 12 (lt (sg 33 v4.toNatClampNeg) (fun x6 => bnd1 (fX7_weighMoves x6 sg) (fun sg7 => LX7_improve_39 r9 (v1, v2, v3, v4, x6, (0 : Int32), sg7)))))
set_option maxHeartbeats 4000000 in
set_option maxRecDepth 100000 in
theorem tX7_improve_9 (C : Cx p s m args meth c cX7_improve 7 RX7 wsX7_improve (some .boolean) D vwCl (tysC T) A true nwL) {ro : Int32} {so : Sg} {r9 : (Int32 × Int32 × Int32 × Int32 × Sg) → Option (Int32 × Sg)} (hr9 : ∀ (v1 : Int32) (v2 : Int32) (v3 : Int32) (v4 : Int32) (sg : Sg), r9 (v1, v2, v3, v4, sg) = some (ro, so) → ∀ (H : Heap) (locs : List Loc) (ls : Array Slot), WS ZC D vwCl T ad sg lg A s.heap H locs → lv_has ls 7 [(0, .ref (ad 6)), (1, .int v1), (2, .int v2), (3, .int v3), (4, .int v4)] → W p l e rmX7_improve s m args below meth c H locs 0 0 (MQ below (QI ZC D vwCl T (tysC T) A (fun z => ad = z) ro so lg) args s 0 0 A) (F0 m 9 ls [])) : ∀ (v1 : Int32) (v2 : Int32) (v3 : Int32) (v4 : Int32) (sg : Sg), ∀ (H : Heap) (locs : List Loc) (ls : Array Slot), WS ZC D vwCl T ad sg lg A s.heap H locs → lv_has ls 7 [(0, .ref (ad 6)), (1, .int v1), (2, .int v2), (3, .int v3), (4, .int v4)] → fX7_improve_9 r9 v1 v2 v3 v4 sg = some (ro, so) → W p l e rmX7_improve s m args below meth c H locs 0 0 (MQ below (QI ZC D vwCl T (tysC T) A (fun z => ad = z) ro so lg) args s 0 0 A) (F0 m 9 ls []) := by
  obtain ⟨⟨hx, hb, hml, hown, hts⟩, hr, hlk, hK, hA, hsp⟩ := id C
  intro v1 v2 v3 v4 sg H locs ls hw hl h
  unfold fX7_improve_9 at h
  refine lv_iload hx hb dX7_improve_9 (lv_at hl 4 rfl) ?_
  refine lv_aload_n hx hb dX7_improve_11 rfl (lv_at hl 0 rfl) ?_
  refine r_getR (ci := 7) (C := RX7) (U := TX7) (N := 4) hx hb hts kX7_improve_iX7 hown hK hw 6 (by decide) rfl rfl 0 (by decide) 3 rfl (hts _ kX7_improve_f21) (fun _ h9 => h9) dX7_improve_12 ?_
  refine r_getI (ci := 8) (C := RX8) (U := TX8) (N := 10) hx hb hts kX7_improve_iX8 hown hK hw 3 (by decide) rfl rfl 2 (by decide) rfl (hts _ kX7_improve_f36) (fun _ h9 => h9) dX7_improve_15 ?_
  refine lv_icmp_ge (tgt := 99) hx hb dX7_improve_18 (by decide) (fun c1 => ?_) (fun c1 => ?_)
  · replace h := ite_t h c1
    refine lv_iload_n hx hb dX7_improve_99 rfl (lv_at hl 2 rfl) ?_
    refine lv_iconst (v := (-1 : Int32)) hx hb dX7_improve_100 (by decide) ?_
    refine lv_icmp_ne (tgt := 106) hx hb dX7_improve_101 (by decide) (fun c2 => ?_) (fun c2 => ?_)
    · replace h := ite_f h c2
      refine lv_aload_n hx hb dX7_improve_106 rfl (lv_at hl 0 rfl) ?_
      refine lv_iload_n hx hb dX7_improve_107 rfl (lv_at hl 2 rfl) ?_
      refine lv_iload_n hx hb dX7_improve_108 rfl (lv_at hl 3 rfl) ?_
      obtain ⟨sg3, hq4, h2⟩ := bnd1_some h
      replace h := h2
      clear h2
      refine r_cVv (As := [.int v2, .int v3]) (rest := []) C hw 6 (by decide) (ci := 7) rfl rfl (mX7_moveSlot l D T ad lg H.size v2 v3 sg hq4) (cwV 2 hts gX7_improve_X7_moveSlot rfl rfl rfl (by decide +kernel) ⟨Nat.le_of_ble_eq_true rfl, Nat.le_of_ble_eq_true rfl⟩) rfl hl.1 rfl (Nat.le_of_ble_eq_true rfl) dX7_improve_109 ⟨Nat.le_of_ble_eq_true rfl, Nat.le_of_ble_eq_true rfl⟩ (fun ad' H locs hp hw => ?_)
      subst hp
      refine W.widen (k := 0) (n := 0) (by decide) (by decide) ?_
      refine lv_iconst (v := (1 : Int32)) hx hb dX7_improve_112 (by decide) ?_
      cases h
      exact r_zret C hw rfl (by decide) (by decide) (by decide) dX7_improve_113
    · replace h := ite_t h c2
      refine lv_iconst (v := (0 : Int32)) hx hb dX7_improve_104 (by decide) ?_
      cases h
      exact r_zret C hw rfl (by decide) (by decide) (by decide) dX7_improve_105
  · replace h := ite_f h c1
    refine lv_aload_n hx hb dX7_improve_21 rfl (lv_at hl 0 rfl) ?_
    refine r_getR (ci := 7) (C := RX7) (U := TX7) (N := 4) hx hb hts kX7_improve_iX7 hown hK hw 6 (by decide) rfl rfl 2 (by decide) 33 rfl (hts _ kX7_improve_f15) (fun _ h9 => h9) dX7_improve_22 ?_
    refine lv_iload hx hb dX7_improve_25 (lv_at hl 4 rfl) ?_
    have hi5 := (gin_some h).1
    replace h := (gin_some h).2
    refine r_iald hx hb hK hw 33 0 12 (by decide) rfl rfl rfl hi5 dX7_improve_27 ?_
    refine lv_topi (fun x6 ex6 => ?_)
    replace h := lt_get h x6 ex6
    refine lv_istore (lv' := [(5, .int x6), (0, .ref (ad 6)), (1, .int v1), (2, .int v2), (3, .int v3), (4, .int v4)]) hx hb dX7_improve_28 hl (by decide) rfl (fun ls hl => ?_)
    refine lv_aload_n hx hb dX7_improve_30 rfl (lv_at hl 1 rfl) ?_
    refine lv_iload hx hb dX7_improve_31 (lv_at hl 0 rfl) ?_
    obtain ⟨sg7, hq8, h2⟩ := bnd1_some h
    replace h := h2
    clear h2
    refine r_cVv (As := [.int x6]) (rest := []) C hw 6 (by decide) (ci := 7) rfl rfl (mX7_weighMoves l D T ad lg H.size x6 sg hq8) (cwV 1 hts gX7_improve_X7_weighMoves rfl rfl rfl (by decide +kernel) ⟨Nat.le_of_ble_eq_true rfl, Nat.le_of_ble_eq_true rfl⟩) rfl hl.1 rfl (Nat.le_of_ble_eq_true rfl) dX7_improve_33 ⟨Nat.le_of_ble_eq_true rfl, Nat.le_of_ble_eq_true rfl⟩ (fun ad' H locs hp hw => ?_)
    subst hp
    refine W.widen (k := 0) (n := 0) (by decide) (by decide) ?_
    refine lv_iconst (v := (0 : Int32)) hx hb dX7_improve_36 (by decide) ?_
    refine lv_istore (lv' := [(6, .int (0 : Int32)), (5, .int x6), (0, .ref (ad 6)), (1, .int v1), (2, .int v2), (3, .int v3), (4, .int v4)]) hx hb dX7_improve_37 hl (by decide) rfl (fun ls hl => ?_)
    exact TX7_improve_39 C hr9 v1 v2 v3 v4 x6 (0 : Int32) sg7 h _ _ _ hw (lv_sub hl [2, 3, 4, 5, 6, 1, 0] rfl)
def LX7_improve_9  : (Int32 × Int32 × Int32 × Int32 × Sg) → Option (Int32 × Sg) := loop (fun rec z => fX7_improve_9 rec z.1 z.2.1 z.2.2.1 z.2.2.2.1 z.2.2.2.2)
theorem TX7_improve_9 (C : Cx p s m args meth c cX7_improve 7 RX7 wsX7_improve (some .boolean) D vwCl (tysC T) A true nwL) {ro : Int32} {so : Sg}   : ∀ (v1 : Int32) (v2 : Int32) (v3 : Int32) (v4 : Int32) (sg : Sg), LX7_improve_9 (v1, v2, v3, v4, sg) = some (ro, so) → ∀ (H : Heap) (locs : List Loc) (ls : Array Slot), WS ZC D vwCl T ad sg lg A s.heap H locs → lv_has ls 7 [(0, .ref (ad 6)), (1, .int v1), (2, .int v2), (3, .int v3), (4, .int v4)] → W p l e rmX7_improve s m args below meth c H locs 0 0 (MQ below (QI ZC D vwCl T (tysC T) A (fun z => ad = z) ro so lg) args s 0 0 A) (F0 m 9 ls []) := by
  have key : ∀ z : (Int32 × Int32 × Int32 × Int32 × Sg), LX7_improve_9  z = some (ro, so) → ∀ (H : Heap) (locs : List Loc) (ls : Array Slot), WS ZC D vwCl T ad z.2.2.2.2 lg A s.heap H locs → lv_has ls 7 [(0, .ref (ad 6)), (1, .int z.1), (2, .int z.2.1), (3, .int z.2.2.1), (4, .int z.2.2.2.1)] → W p l e rmX7_improve s m args below meth c H locs 0 0 (MQ below (QI ZC D vwCl T (tysC T) A (fun z => ad = z) ro so lg) args s 0 0 A) (F0 m 9 ls []) := by
    intro z h
    unfold LX7_improve_9 at h
    exact loop_ind (fun rec z => fX7_improve_9 rec z.1 z.2.1 z.2.2.1 z.2.2.2.1 z.2.2.2.2) (y := (ro, so)) (P := fun z => ∀ (H : Heap) (locs : List Loc) (ls : Array Slot), WS ZC D vwCl T ad z.2.2.2.2 lg A s.heap H locs → lv_has ls 7 [(0, .ref (ad 6)), (1, .int z.1), (2, .int z.2.1), (3, .int z.2.2.1), (4, .int z.2.2.2.1)] → W p l e rmX7_improve s m args below meth c H locs 0 0 (MQ below (QI ZC D vwCl T (tysC T) A (fun z => ad = z) ro so lg) args s 0 0 A) (F0 m 9 ls [])) (fun rec hrec z h H locs ls hw hl => tX7_improve_9 C  (fun v1 v2 v3 v4 sg => hrec (v1, v2, v3, v4, sg)) z.1 z.2.1 z.2.2.1 z.2.2.2.1 z.2.2.2.2 H locs ls hw hl h) z h
  exact fun v1 v2 v3 v4 sg => key (v1, v2, v3, v4, sg)
def fX7_improve  (sg : Sg) : Option (Int32 × Sg) :=
  LX7_improve_9 ((0 : Int32), (-1 : Int32), (-1 : Int32), (0 : Int32), sg)
set_option maxHeartbeats 4000000 in
set_option maxRecDepth 100000 in
theorem tX7_improve_0 (C : Cx p s m args meth c cX7_improve 7 RX7 wsX7_improve (some .boolean) D vwCl (tysC T) A true nwL) {ro : Int32} {so : Sg}   : ∀ (sg : Sg), ∀ (H : Heap) (locs : List Loc) (ls : Array Slot), WS ZC D vwCl T ad sg lg A s.heap H locs → lv_has ls 7 [(0, .ref (ad 6))] → fX7_improve sg = some (ro, so) → W p l e rmX7_improve s m args below meth c H locs 0 0 (MQ below (QI ZC D vwCl T (tysC T) A (fun z => ad = z) ro so lg) args s 0 0 A) (F0 m 0 ls []) := by
  obtain ⟨⟨hx, hb, hml, hown, hts⟩, hr, hlk, hK, hA, hsp⟩ := id C
  intro sg H locs ls hw hl h
  unfold fX7_improve at h
  refine lv_iconst (v := (0 : Int32)) hx hb dX7_improve_0 (by decide) ?_
  refine lv_istore_n (lv' := [(1, .int (0 : Int32)), (0, .ref (ad 6))]) hx hb dX7_improve_1 rfl hl (by decide) rfl (fun ls hl => ?_)
  refine lv_iconst (v := (-1 : Int32)) hx hb dX7_improve_2 (by decide) ?_
  refine lv_istore_n (lv' := [(2, .int (-1 : Int32)), (1, .int (0 : Int32)), (0, .ref (ad 6))]) hx hb dX7_improve_3 rfl hl (by decide) rfl (fun ls hl => ?_)
  refine lv_iconst (v := (-1 : Int32)) hx hb dX7_improve_4 (by decide) ?_
  refine lv_istore_n (lv' := [(3, .int (-1 : Int32)), (2, .int (-1 : Int32)), (1, .int (0 : Int32)), (0, .ref (ad 6))]) hx hb dX7_improve_5 rfl hl (by decide) rfl (fun ls hl => ?_)
  refine lv_iconst (v := (0 : Int32)) hx hb dX7_improve_6 (by decide) ?_
  refine lv_istore (lv' := [(4, .int (0 : Int32)), (3, .int (-1 : Int32)), (2, .int (-1 : Int32)), (1, .int (0 : Int32)), (0, .ref (ad 6))]) hx hb dX7_improve_7 hl (by decide) rfl (fun ls hl => ?_)
  exact TX7_improve_9 C (0 : Int32) (-1 : Int32) (-1 : Int32) (0 : Int32) sg h _ _ _ hw (lv_sub hl [4, 3, 2, 1, 0] rfl)
theorem mX7_improve (l : Launch) (D : va_G) (T : Nat → ClassId) (ad : Nat → Nat) (lg : Lg) (sz : Nat)   (sg : Sg) {ro : Int32} {so : Sg} (h : fX7_improve sg = some (ro, so)) : Met l yX7_improve wsX7_improve rmX7_improve (PreZ ZC D vwCl T (tysC T) ad sg lg true nwL [.ref (ad 6)] sz) (QI ZC D vwCl T (tysC T) (va_A (zwd ZC T ad sg lg) sz) (fun z => ad = z) ro so lg) 0 0 (va_A (zwd ZC T ad sg lg) sz) :=
  metZ [.ref (ad 6)] sz (by decide) rfl (Nat.le_of_ble_eq_true rfl) (fun p e s m below meth c ls C hw hl => tX7_improve_0 C sg _ _ _ hw hl h)
end ZC
