section ZC
variable {p : Program} {l : Launch} {e : Env} {s : State} {m : MethodId} {args : Array Value} {below : List Frame} {meth : Method} {c : Code} {D : va_G} {T : Nat → ClassId} {A : Nat → Prop} {ad a : Nat → Nat} {lg : Lg}
-- PeckYard$Rings.leastOf(I)I
def rmX10_leastOf : Room := { frames := 1, cells := 0, slots := 0, locals := 20 }
def fX10_leastOf  (v0 : Int32) (sg : Sg) : Option (Int32 × Sg) :=
  (if v0 = 0 then some ((0 : Int32), sg) else bnd2 (fJ6_bitCount_0f7a4 ((v0 &&& (-v0)) - (1 : Int32)) sg) (fun y2 sg3 => some (y2, sg3)))
set_option maxHeartbeats 4000000 in
set_option maxRecDepth 100000 in
theorem tX10_leastOf_0 (C : Cx p s m args meth c cX10_leastOf 1 RX10 wsX10_leastOf (some .int) D vwCl (tysC T) A true nwL) {ro : Int32} {so : Sg}   : ∀ (v0 : Int32) (sg : Sg), ∀ (H : Heap) (locs : List Loc) (ls : Array Slot), WS ZC D vwCl T ad sg lg A s.heap H locs → lv_has ls 1 [(0, .int v0)] → fX10_leastOf v0 sg = some (ro, so) → W p l e rmX10_leastOf s m args below meth c H locs 0 0 (MQ below (QI ZC D vwCl T (tysC T) A (fun z => ad = z) ro so lg) args s 0 0 A) (F0 m 0 ls []) := by
  obtain ⟨⟨hx, hb, hml, hown, hts⟩, hr, hlk, hK, hA, hsp⟩ := id C
  intro v0 sg H locs ls hw hl h
  unfold fX10_leastOf at h
  refine lv_iload_n hx hb dX10_leastOf_0 rfl (lv_at hl 0 rfl) ?_
  refine lv_if_ne (tgt := 8) hx hb dX10_leastOf_1 (by decide) (fun c1 => ?_) (fun c1 => ?_)
  · replace h := ite_f h c1
    refine lv_iload_n hx hb dX10_leastOf_8 rfl (lv_at hl 0 rfl) ?_
    refine lv_iload_n hx hb dX10_leastOf_9 rfl (lv_at hl 0 rfl) ?_
    refine lv_ineg hx hb dX10_leastOf_10 ?_
    refine lv_iand hx hb dX10_leastOf_11 ?_
    refine lv_iconst (v := (1 : Int32)) hx hb dX10_leastOf_12 (by decide) ?_
    refine lv_isub hx hb dX10_leastOf_13 ?_
    obtain ⟨y2, sg3, hq4, h2⟩ := bnd2_some h
    replace h := h2
    clear h2
    refine r_cSi (As := [.int ((v0 &&& (-v0)) - (1 : Int32))]) (rest := []) C hw (mJ6_bitCount_0f7a4 l D T ad lg H.size ((v0 &&& (-v0)) - (1 : Int32)) sg hq4) (va_cwS 1 hts gX10_leastOf_J6_bitCount_0f7a4 rfl rfl rfl (by decide +kernel) ⟨Nat.le_of_ble_eq_true rfl, Nat.le_of_ble_eq_true rfl⟩) rfl hl.1 rfl (Nat.le_of_ble_eq_true rfl) dX10_leastOf_14 ⟨Nat.le_of_ble_eq_true rfl, Nat.le_of_ble_eq_true rfl⟩ (fun ad' H locs hp hw => ?_)
    subst hp
    refine W.widen (k := 0) (n := 0) (by decide) (by decide) ?_
    cases h
    exact r_iret C hw rfl (by decide) (by decide) dX10_leastOf_17
  · replace h := ite_t h c1
    refine lv_iconst (v := (0 : Int32)) hx hb dX10_leastOf_4 (by decide) ?_
    refine lv_goto (tgt := 17) hx hb dX10_leastOf_5 (by decide) ?_
    cases h
    exact r_iret C hw rfl (by decide) (by decide) dX10_leastOf_17
theorem mX10_leastOf (l : Launch) (D : va_G) (T : Nat → ClassId) (ad : Nat → Nat) (lg : Lg) (sz : Nat)   (v0 : Int32) (sg : Sg) {ro : Int32} {so : Sg} (h : fX10_leastOf v0 sg = some (ro, so)) : Met l yX10_leastOf wsX10_leastOf rmX10_leastOf (PreZ ZC D vwCl T (tysC T) ad sg lg true nwL [.int v0] sz) (QI ZC D vwCl T (tysC T) (va_A (zwd ZC T ad sg lg) sz) (fun z => ad = z) ro so lg) 0 0 (va_A (zwd ZC T ad sg lg) sz) :=
  metZ [.int v0] sz (by decide) rfl (Nat.le_of_ble_eq_true rfl) (fun p e s m below meth c ls C hw hl => tX10_leastOf_0 C v0 sg _ _ _ hw hl h)
-- PeckYard$Rings.trace(II)V
def rmX10_trace : Room := { frames := 2, cells := 0, slots := 0, locals := 40 }
theorem kX10_trace_f33 : Cond.fieldLink RX10 33 "PeckYard$Rings" "found" "[I" ∈ wsX10_trace := by decide +kernel
theorem kX10_trace_iX10 : ∀ w ∈ u_ws RX10 TX10 10, w ∈ wsX10_trace := by decide +kernel
theorem kX10_trace_f24 : Cond.fieldLink RX10 24 "PeckYard$Rings" "peckedBy" "[I" ∈ wsX10_trace := by decide +kernel
theorem kX10_trace_f30 : Cond.fieldLink RX10 30 "PeckYard$Rings" "layers" "[I" ∈ wsX10_trace := by decide +kernel
def fX10_trace_9 (r9 : (Int32 × Int32 × Sg) → Option (Sg)) (v2 : Int32) (v3 : Int32) (sg : Sg) : Option (Sg) :=
  (if v2 ≤ v3 then some sg else lt (v3 - (1 : Int32)) (fun x2 => gin x2 12 (lt (sg 44 x2.toNatClampNeg) (fun x4 => gin x4 12 (lt (v2 - v3) (fun x6 => gin x6 12 (lt ((sg 41 x4.toNatClampNeg) &&& (sg 43 x6.toNatClampNeg)) (fun x8 => bnd2 (fX10_leastOf x8 sg) (fun y9 sg10 => gin v3 12 (lt (up2 sg10 44 v3.toNatClampNeg y9) (fun sg13 => lt (v3 + (1 : Int32)) (fun x14 => r9 (v2, x14, sg13)))))))))))))
set_option maxHeartbeats 4000000 in
set_option maxRecDepth 100000 in
theorem tX10_trace_9 (C : Cx p s m args meth c cX10_trace 5 RX10 wsX10_trace none D vwCl (tysC T) A true nwL) {so : Sg} {r9 : (Int32 × Int32 × Sg) → Option (Sg)} (hr9 : ∀ (v2 : Int32) (v3 : Int32) (sg : Sg), r9 (v2, v3, sg) = some so → ∀ (H : Heap) (locs : List Loc) (ls : Array Slot), WS ZC D vwCl T ad sg lg A s.heap H locs → lv_has ls 5 [(0, .ref (ad 8)), (2, .int v2), (3, .int v3)] → W p l e rmX10_trace s m args below meth c H locs 0 0 (MQ below (QV ZC D vwCl T (tysC T) A (fun z => ad = z) so lg) args s 0 0 A) (F0 m 9 ls [])) : ∀ (v2 : Int32) (v3 : Int32) (sg : Sg), ∀ (H : Heap) (locs : List Loc) (ls : Array Slot), WS ZC D vwCl T ad sg lg A s.heap H locs → lv_has ls 5 [(0, .ref (ad 8)), (2, .int v2), (3, .int v3)] → fX10_trace_9 r9 v2 v3 sg = some so → W p l e rmX10_trace s m args below meth c H locs 0 0 (MQ below (QV ZC D vwCl T (tysC T) A (fun z => ad = z) so lg) args s 0 0 A) (F0 m 9 ls []) := by
  obtain ⟨⟨hx, hb, hml, hown, hts⟩, hr, hlk, hK, hA, hsp⟩ := id C
  intro v2 v3 sg H locs ls hw hl h
  unfold fX10_trace_9 at h
  refine lv_iload_n hx hb dX10_trace_9 rfl (lv_at hl 2 rfl) ?_
  refine lv_iload_n hx hb dX10_trace_10 rfl (lv_at hl 1 rfl) ?_
  refine lv_icmp_ge (tgt := 55) hx hb dX10_trace_11 (by decide) (fun c1 => ?_) (fun c1 => ?_)
  · replace h := ite_t h c1
    cases h
    exact r_vret C hw rfl (by decide) (by decide) dX10_trace_55
  · replace h := ite_f h c1
    refine lv_aload_n hx hb dX10_trace_14 rfl (lv_at hl 0 rfl) ?_
    refine r_getR (ci := 10) (C := RX10) (U := TX10) (N := 10) hx hb hts kX10_trace_iX10 hown hK hw 8 (by decide) rfl rfl 6 (by decide) 41 rfl (hts _ kX10_trace_f24) (fun _ h9 => h9) dX10_trace_15 ?_
    refine lv_aload_n hx hb dX10_trace_18 rfl (lv_at hl 0 rfl) ?_
    refine r_getR (ci := 10) (C := RX10) (U := TX10) (N := 10) hx hb hts kX10_trace_iX10 hown hK hw 8 (by decide) rfl rfl 9 (by decide) 44 rfl (hts _ kX10_trace_f33) (fun _ h9 => h9) dX10_trace_19 ?_
    refine lv_iload_n hx hb dX10_trace_22 rfl (lv_at hl 2 rfl) ?_
    refine lv_iconst (v := (1 : Int32)) hx hb dX10_trace_23 (by decide) ?_
    refine lv_isub hx hb dX10_trace_24 ?_
    refine lv_topi (fun x2 ex2 => ?_)
    replace h := lt_get h x2 ex2
    have hi3 := (gin_some h).1
    replace h := (gin_some h).2
    refine r_iald hx hb hK hw 44 0 12 (by decide) rfl rfl rfl hi3 dX10_trace_25 ?_
    refine lv_topi (fun x4 ex4 => ?_)
    replace h := lt_get h x4 ex4
    have hi5 := (gin_some h).1
    replace h := (gin_some h).2
    refine r_iald hx hb hK hw 41 0 12 (by decide) rfl rfl rfl hi5 dX10_trace_26 ?_
    refine lv_aload_n hx hb dX10_trace_27 rfl (lv_at hl 0 rfl) ?_
    refine r_getR (ci := 10) (C := RX10) (U := TX10) (N := 10) hx hb hts kX10_trace_iX10 hown hK hw 8 (by decide) rfl rfl 8 (by decide) 43 rfl (hts _ kX10_trace_f30) (fun _ h9 => h9) dX10_trace_28 ?_
    refine lv_iload_n hx hb dX10_trace_31 rfl (lv_at hl 1 rfl) ?_
    refine lv_iload_n hx hb dX10_trace_32 rfl (lv_at hl 2 rfl) ?_
    refine lv_isub hx hb dX10_trace_33 ?_
    refine lv_topi (fun x6 ex6 => ?_)
    replace h := lt_get h x6 ex6
    have hi7 := (gin_some h).1
    replace h := (gin_some h).2
    refine r_iald hx hb hK hw 43 0 12 (by decide) rfl rfl rfl hi7 dX10_trace_34 ?_
    refine lv_iand hx hb dX10_trace_35 ?_
    refine lv_topi (fun x8 ex8 => ?_)
    replace h := lt_get h x8 ex8
    refine lv_istore (lv' := [(4, .int x8), (0, .ref (ad 8)), (2, .int v2), (3, .int v3)]) hx hb dX10_trace_36 hl (by decide) rfl (fun ls hl => ?_)
    refine lv_aload_n hx hb dX10_trace_38 rfl (lv_at hl 1 rfl) ?_
    refine r_getR (ci := 10) (C := RX10) (U := TX10) (N := 10) hx hb hts kX10_trace_iX10 hown hK hw 8 (by decide) rfl rfl 9 (by decide) 44 rfl (hts _ kX10_trace_f33) (fun _ h9 => h9) dX10_trace_39 ?_
    refine lv_iload_n hx hb dX10_trace_42 rfl (lv_at hl 3 rfl) ?_
    refine lv_iload hx hb dX10_trace_43 (lv_at hl 0 rfl) ?_
    obtain ⟨y9, sg10, hq11, h2⟩ := bnd2_some h
    replace h := h2
    clear h2
    refine r_cSi (As := [.int x8]) (rest := [.int v3, .ref (ad 44)]) C hw (mX10_leastOf l D T ad lg H.size x8 sg hq11) (va_cwS 1 hts gX10_trace_X10_leastOf rfl rfl rfl (by decide +kernel) ⟨Nat.le_of_ble_eq_true rfl, Nat.le_of_ble_eq_true rfl⟩) rfl hl.1 rfl (Nat.le_of_ble_eq_true rfl) dX10_trace_45 ⟨Nat.le_of_ble_eq_true rfl, Nat.le_of_ble_eq_true rfl⟩ (fun ad' H locs hp hw => ?_)
    subst hp
    refine W.widen (k := 0) (n := 0) (by decide) (by decide) ?_
    have hi12 := (gin_some h).1
    replace h := (gin_some h).2
    refine r_iast ZC_ok hx hb hK hw 44 0 12 (by decide) rfl rfl rfl hi12 dX10_trace_48 (fun H locs sg13 esg13 hw => ?_)
    replace h := lt_get h sg13 esg13
    obtain ⟨x14, ex14⟩ : ∃ z : Int32, z = (v3 + (1 : Int32)) := ⟨_, rfl⟩
    replace h := lt_get h x14 ex14
    refine lv_iinc (v := x14) (lv' := [(3, .int x14), (4, .int x8), (0, .ref (ad 8)), (2, .int v2)]) hx hb dX10_trace_49 hl (k := 3) rfl (by rw [ex14]; rfl) (by decide) rfl (fun ls hl => ?_)
    refine lv_goto (tgt := 9) hx hb dX10_trace_52 (by decide) ?_
    exact hr9 v2 x14 sg13 h _ _ _ hw (lv_sub hl [2, 3, 0] rfl)
def LX10_trace_9  : (Int32 × Int32 × Sg) → Option (Sg) := loop (fun rec z => fX10_trace_9 rec z.1 z.2.1 z.2.2)
theorem TX10_trace_9 (C : Cx p s m args meth c cX10_trace 5 RX10 wsX10_trace none D vwCl (tysC T) A true nwL) {so : Sg}   : ∀ (v2 : Int32) (v3 : Int32) (sg : Sg), LX10_trace_9 (v2, v3, sg) = some so → ∀ (H : Heap) (locs : List Loc) (ls : Array Slot), WS ZC D vwCl T ad sg lg A s.heap H locs → lv_has ls 5 [(0, .ref (ad 8)), (2, .int v2), (3, .int v3)] → W p l e rmX10_trace s m args below meth c H locs 0 0 (MQ below (QV ZC D vwCl T (tysC T) A (fun z => ad = z) so lg) args s 0 0 A) (F0 m 9 ls []) := by
  have key : ∀ z : (Int32 × Int32 × Sg), LX10_trace_9  z = some so → ∀ (H : Heap) (locs : List Loc) (ls : Array Slot), WS ZC D vwCl T ad z.2.2 lg A s.heap H locs → lv_has ls 5 [(0, .ref (ad 8)), (2, .int z.1), (3, .int z.2.1)] → W p l e rmX10_trace s m args below meth c H locs 0 0 (MQ below (QV ZC D vwCl T (tysC T) A (fun z => ad = z) so lg) args s 0 0 A) (F0 m 9 ls []) := by
    intro z h
    unfold LX10_trace_9 at h
    exact loop_ind (fun rec z => fX10_trace_9 rec z.1 z.2.1 z.2.2) (y := so) (P := fun z => ∀ (H : Heap) (locs : List Loc) (ls : Array Slot), WS ZC D vwCl T ad z.2.2 lg A s.heap H locs → lv_has ls 5 [(0, .ref (ad 8)), (2, .int z.1), (3, .int z.2.1)] → W p l e rmX10_trace s m args below meth c H locs 0 0 (MQ below (QV ZC D vwCl T (tysC T) A (fun z => ad = z) so lg) args s 0 0 A) (F0 m 9 ls [])) (fun rec hrec z h H locs ls hw hl => tX10_trace_9 C  (fun v2 v3 sg => hrec (v2, v3, sg)) z.1 z.2.1 z.2.2 H locs ls hw hl h) z h
  exact fun v2 v3 sg => key (v2, v3, sg)
def fX10_trace  (v1 : Int32) (v2 : Int32) (sg : Sg) : Option (Sg) :=
  gin (0 : Int32) 12 (lt (up2 sg 44 (0 : Int32).toNatClampNeg v1) (fun sg2 => LX10_trace_9 (v2, (1 : Int32), sg2)))
set_option maxHeartbeats 4000000 in
set_option maxRecDepth 100000 in
theorem tX10_trace_0 (C : Cx p s m args meth c cX10_trace 5 RX10 wsX10_trace none D vwCl (tysC T) A true nwL) {so : Sg}   : ∀ (v1 : Int32) (v2 : Int32) (sg : Sg), ∀ (H : Heap) (locs : List Loc) (ls : Array Slot), WS ZC D vwCl T ad sg lg A s.heap H locs → lv_has ls 5 [(0, .ref (ad 8)), (1, .int v1), (2, .int v2)] → fX10_trace v1 v2 sg = some so → W p l e rmX10_trace s m args below meth c H locs 0 0 (MQ below (QV ZC D vwCl T (tysC T) A (fun z => ad = z) so lg) args s 0 0 A) (F0 m 0 ls []) := by
  obtain ⟨⟨hx, hb, hml, hown, hts⟩, hr, hlk, hK, hA, hsp⟩ := id C
  intro v1 v2 sg H locs ls hw hl h
  unfold fX10_trace at h
  refine lv_aload_n hx hb dX10_trace_0 rfl (lv_at hl 0 rfl) ?_
  refine r_getR (ci := 10) (C := RX10) (U := TX10) (N := 10) hx hb hts kX10_trace_iX10 hown hK hw 8 (by decide) rfl rfl 9 (by decide) 44 rfl (hts _ kX10_trace_f33) (fun _ h9 => h9) dX10_trace_1 ?_
  refine lv_iconst (v := (0 : Int32)) hx hb dX10_trace_4 (by decide) ?_
  refine lv_iload_n hx hb dX10_trace_5 rfl (lv_at hl 1 rfl) ?_
  have hi1 := (gin_some h).1
  replace h := (gin_some h).2
  refine r_iast ZC_ok hx hb hK hw 44 0 12 (by decide) rfl rfl rfl hi1 dX10_trace_6 (fun H locs sg2 esg2 hw => ?_)
  replace h := lt_get h sg2 esg2
  refine lv_iconst (v := (1 : Int32)) hx hb dX10_trace_7 (by decide) ?_
  refine lv_istore_n (lv' := [(3, .int (1 : Int32)), (0, .ref (ad 8)), (1, .int v1), (2, .int v2)]) hx hb dX10_trace_8 rfl hl (by decide) rfl (fun ls hl => ?_)
  exact TX10_trace_9 C v2 (1 : Int32) sg2 h _ _ _ hw (lv_sub hl [1, 3, 0] rfl)
theorem mX10_trace (l : Launch) (D : va_G) (T : Nat → ClassId) (ad : Nat → Nat) (lg : Lg) (sz : Nat)   (v1 : Int32) (v2 : Int32) (sg : Sg) {so : Sg} (h : fX10_trace v1 v2 sg = some so) : Met l yX10_trace wsX10_trace rmX10_trace (PreZ ZC D vwCl T (tysC T) ad sg lg true nwL [.ref (ad 8), .int v1, .int v2] sz) (QV ZC D vwCl T (tysC T) (va_A (zwd ZC T ad sg lg) sz) (fun z => ad = z) so lg) 0 0 (va_A (zwd ZC T ad sg lg) sz) :=
  metZ [.ref (ad 8), .int v1, .int v2] sz (by decide) rfl (Nat.le_of_ble_eq_true rfl) (fun p e s m below meth c ls C hw hl => tX10_trace_0 C v1 v2 sg _ _ _ hw hl h)
-- PeckYard$Rings.findShortest()I
def rmX10_findShortest : Room := { frames := 3, cells := 0, slots := 0, locals := 68 }
theorem kX10_findShortest_f36 : Cond.fieldLink RX10 36 "PeckYard$Rings" "muster" "LPeckYard$Muster;" ∈ wsX10_findShortest := by decide +kernel
theorem kX10_findShortest_iX10 : ∀ w ∈ u_ws RX10 TX10 10, w ∈ wsX10_findShortest := by decide +kernel
theorem kX10_findShortest_f70 : Cond.fieldLink RX10 70 "PeckYard$Muster" "size" "I" ∈ wsX10_findShortest := by decide +kernel
theorem kX10_findShortest_iX8 : ∀ w ∈ u_ws RX8 TX8 10, w ∈ wsX10_findShortest := by decide +kernel
def fX10_findShortest_56 (r4 : (Int32 × Int32 × Sg) → Option (Int32 × Sg)) (v1 : Int32) (v2 : Int32) (sg : Sg) : Option (Int32 × Sg) :=
  lt (v2 + (1 : Int32)) (fun x1 => r4 (v1, x1, sg))
set_option maxHeartbeats 4000000 in
set_option maxRecDepth 100000 in
theorem tX10_findShortest_56 (C : Cx p s m args meth c cX10_findShortest 5 RX10 wsX10_findShortest (some .int) D vwCl (tysC T) A true nwL) {ro : Int32} {so : Sg} {r4 : (Int32 × Int32 × Sg) → Option (Int32 × Sg)} (hr4 : ∀ (v1 : Int32) (v2 : Int32) (sg : Sg), r4 (v1, v2, sg) = some (ro, so) → ∀ (H : Heap) (locs : List Loc) (ls : Array Slot), WS ZC D vwCl T ad sg lg A s.heap H locs → lv_has ls 5 [(0, .ref (ad 8)), (1, .int v1), (2, .int v2)] → W p l e rmX10_findShortest s m args below meth c H locs 0 0 (MQ below (QI ZC D vwCl T (tysC T) A (fun z => ad = z) ro so lg) args s 0 0 A) (F0 m 4 ls [])) : ∀ (v1 : Int32) (v2 : Int32) (sg : Sg), ∀ (H : Heap) (locs : List Loc) (ls : Array Slot), WS ZC D vwCl T ad sg lg A s.heap H locs → lv_has ls 5 [(0, .ref (ad 8)), (1, .int v1), (2, .int v2)] → fX10_findShortest_56 r4 v1 v2 sg = some (ro, so) → W p l e rmX10_findShortest s m args below meth c H locs 0 0 (MQ below (QI ZC D vwCl T (tysC T) A (fun z => ad = z) ro so lg) args s 0 0 A) (F0 m 56 ls []) := by
  obtain ⟨⟨hx, hb, hml, hown, hts⟩, hr, hlk, hK, hA, hsp⟩ := id C
  intro v1 v2 sg H locs ls hw hl h
  unfold fX10_findShortest_56 at h
  obtain ⟨x1, ex1⟩ : ∃ z : Int32, z = (v2 + (1 : Int32)) := ⟨_, rfl⟩
  replace h := lt_get h x1 ex1
  refine lv_iinc (v := x1) (lv' := [(2, .int x1), (0, .ref (ad 8)), (1, .int v1)]) hx hb dX10_findShortest_56 hl (k := 2) rfl (by rw [ex1]; rfl) (by decide) rfl (fun ls hl => ?_)
  refine lv_goto (tgt := 4) hx hb dX10_findShortest_59 (by decide) ?_
  exact hr4 v1 x1 sg h _ _ _ hw (lv_sub hl [1, 2, 0] rfl)
def fX10_findShortest_32 (r4 : (Int32 × Int32 × Sg) → Option (Int32 × Sg)) (v1 : Int32) (v2 : Int32) (w0 : Int32) (sg : Sg) : Option (Int32 × Sg) :=
  bnd2 (fX10_lengthFrom v2 w0 sg) (fun y1 sg2 => (if y1 ≤ 0 then fX10_findShortest_56 r4 v1 v2 sg2 else bnd1 (fX10_trace v2 y1 sg2) (fun sg5 => fX10_findShortest_56 r4 y1 v2 sg5)))
set_option maxHeartbeats 4000000 in
set_option maxRecDepth 100000 in
theorem tX10_findShortest_32 (C : Cx p s m args meth c cX10_findShortest 5 RX10 wsX10_findShortest (some .int) D vwCl (tysC T) A true nwL) {ro : Int32} {so : Sg} {r4 : (Int32 × Int32 × Sg) → Option (Int32 × Sg)} (hr4 : ∀ (v1 : Int32) (v2 : Int32) (sg : Sg), r4 (v1, v2, sg) = some (ro, so) → ∀ (H : Heap) (locs : List Loc) (ls : Array Slot), WS ZC D vwCl T ad sg lg A s.heap H locs → lv_has ls 5 [(0, .ref (ad 8)), (1, .int v1), (2, .int v2)] → W p l e rmX10_findShortest s m args below meth c H locs 0 0 (MQ below (QI ZC D vwCl T (tysC T) A (fun z => ad = z) ro so lg) args s 0 0 A) (F0 m 4 ls [])) : ∀ (v1 : Int32) (v2 : Int32) (w0 : Int32) (sg : Sg), ∀ (H : Heap) (locs : List Loc) (ls : Array Slot), WS ZC D vwCl T ad sg lg A s.heap H locs → lv_has ls 5 [(0, .ref (ad 8)), (1, .int v1), (2, .int v2)] → fX10_findShortest_32 r4 v1 v2 w0 sg = some (ro, so) → W p l e rmX10_findShortest s m args below meth c H locs 0 0 (MQ below (QI ZC D vwCl T (tysC T) A (fun z => ad = z) ro so lg) args s 0 0 A) (F0 m 32 ls [.int w0]) := by
  obtain ⟨⟨hx, hb, hml, hown, hts⟩, hr, hlk, hK, hA, hsp⟩ := id C
  intro v1 v2 w0 sg H locs ls hw hl h
  unfold fX10_findShortest_32 at h
  refine lv_istore_n (lv' := [(3, .int w0), (0, .ref (ad 8)), (1, .int v1), (2, .int v2)]) hx hb dX10_findShortest_32 rfl hl (by decide) rfl (fun ls hl => ?_)
  refine lv_aload_n hx hb dX10_findShortest_33 rfl (lv_at hl 1 rfl) ?_
  refine lv_iload_n hx hb dX10_findShortest_34 rfl (lv_at hl 3 rfl) ?_
  refine lv_iload_n hx hb dX10_findShortest_35 rfl (lv_at hl 0 rfl) ?_
  obtain ⟨y1, sg2, hq3, h2⟩ := bnd2_some h
  replace h := h2
  clear h2
  refine r_cVi (As := [.int v2, .int w0]) (rest := []) C hw 8 (by decide) (ci := 10) rfl rfl (mX10_lengthFrom l D T ad lg H.size v2 w0 sg hq3) (cwV 2 hts gX10_findShortest_X10_lengthFrom rfl rfl rfl (by decide +kernel) ⟨Nat.le_of_ble_eq_true rfl, Nat.le_of_ble_eq_true rfl⟩) rfl hl.1 rfl (Nat.le_of_ble_eq_true rfl) dX10_findShortest_36 ⟨Nat.le_of_ble_eq_true rfl, Nat.le_of_ble_eq_true rfl⟩ (fun ad' H locs hp hw => ?_)
  subst hp
  refine W.widen (k := 0) (n := 0) (by decide) (by decide) ?_
  refine lv_istore (lv' := [(4, .int y1), (3, .int w0), (0, .ref (ad 8)), (1, .int v1), (2, .int v2)]) hx hb dX10_findShortest_39 hl (by decide) rfl (fun ls hl => ?_)
  refine lv_iload hx hb dX10_findShortest_41 (lv_at hl 0 rfl) ?_
  refine lv_if_le (tgt := 56) hx hb dX10_findShortest_43 (by decide) (fun c4 => ?_) (fun c4 => ?_)
  · replace h := ite_t h c4
    exact tX10_findShortest_56 C hr4 v1 v2 sg2 _ _ _ hw (lv_sub hl [2, 3, 4] rfl) h
  · replace h := ite_f h c4
    refine lv_iload hx hb dX10_findShortest_46 (lv_at hl 0 rfl) ?_
    refine lv_istore_n (lv' := [(1, .int y1), (4, .int y1), (3, .int w0), (0, .ref (ad 8)), (2, .int v2)]) hx hb dX10_findShortest_48 rfl hl (by decide) rfl (fun ls hl => ?_)
    refine lv_aload_n hx hb dX10_findShortest_49 rfl (lv_at hl 3 rfl) ?_
    refine lv_iload_n hx hb dX10_findShortest_50 rfl (lv_at hl 4 rfl) ?_
    refine lv_iload hx hb dX10_findShortest_51 (lv_at hl 1 rfl) ?_
    obtain ⟨sg5, hq6, h2⟩ := bnd1_some h
    replace h := h2
    clear h2
    refine r_cVv (As := [.int v2, .int y1]) (rest := []) C hw 8 (by decide) (ci := 10) rfl rfl (mX10_trace l D T ad lg H.size v2 y1 sg2 hq6) (cwV 2 hts gX10_findShortest_X10_trace rfl rfl rfl (by decide +kernel) ⟨Nat.le_of_ble_eq_true rfl, Nat.le_of_ble_eq_true rfl⟩) rfl hl.1 rfl (Nat.le_of_ble_eq_true rfl) dX10_findShortest_53 ⟨Nat.le_of_ble_eq_true rfl, Nat.le_of_ble_eq_true rfl⟩ (fun ad' H locs hp hw => ?_)
    subst hp
    refine W.widen (k := 0) (n := 0) (by decide) (by decide) ?_
    exact tX10_findShortest_56 C hr4 y1 v2 sg5 _ _ _ hw (lv_sub hl [3, 0, 4] rfl) h
def fX10_findShortest_4 (r4 : (Int32 × Int32 × Sg) → Option (Int32 × Sg)) (v1 : Int32) (v2 : Int32) (sg : Sg) : Option (Int32 × Sg) :=
  (if (sg 3 2) ≤ v2 then some (v1, sg) else (if v1 = 0 then fX10_findShortest_32 r4 v1 v2 ((sg 3 2) + (1 : Int32)) sg else fX10_findShortest_32 r4 v1 v2 v1 sg))
set_option maxHeartbeats 4000000 in
set_option maxRecDepth 100000 in
theorem tX10_findShortest_4 (C : Cx p s m args meth c cX10_findShortest 5 RX10 wsX10_findShortest (some .int) D vwCl (tysC T) A true nwL) {ro : Int32} {so : Sg} {r4 : (Int32 × Int32 × Sg) → Option (Int32 × Sg)} (hr4 : ∀ (v1 : Int32) (v2 : Int32) (sg : Sg), r4 (v1, v2, sg) = some (ro, so) → ∀ (H : Heap) (locs : List Loc) (ls : Array Slot), WS ZC D vwCl T ad sg lg A s.heap H locs → lv_has ls 5 [(0, .ref (ad 8)), (1, .int v1), (2, .int v2)] → W p l e rmX10_findShortest s m args below meth c H locs 0 0 (MQ below (QI ZC D vwCl T (tysC T) A (fun z => ad = z) ro so lg) args s 0 0 A) (F0 m 4 ls [])) : ∀ (v1 : Int32) (v2 : Int32) (sg : Sg), ∀ (H : Heap) (locs : List Loc) (ls : Array Slot), WS ZC D vwCl T ad sg lg A s.heap H locs → lv_has ls 5 [(0, .ref (ad 8)), (1, .int v1), (2, .int v2)] → fX10_findShortest_4 r4 v1 v2 sg = some (ro, so) → W p l e rmX10_findShortest s m args below meth c H locs 0 0 (MQ below (QI ZC D vwCl T (tysC T) A (fun z => ad = z) ro so lg) args s 0 0 A) (F0 m 4 ls []) := by
  obtain ⟨⟨hx, hb, hml, hown, hts⟩, hr, hlk, hK, hA, hsp⟩ := id C
  intro v1 v2 sg H locs ls hw hl h
  unfold fX10_findShortest_4 at h
  refine lv_iload_n hx hb dX10_findShortest_4 rfl (lv_at hl 2 rfl) ?_
  refine lv_aload_n hx hb dX10_findShortest_5 rfl (lv_at hl 0 rfl) ?_
  refine r_getR (ci := 10) (C := RX10) (U := TX10) (N := 10) hx hb hts kX10_findShortest_iX10 hown hK hw 8 (by decide) rfl rfl 0 (by decide) 3 rfl (hts _ kX10_findShortest_f36) (fun _ h9 => h9) dX10_findShortest_6 ?_
  refine r_getI (ci := 8) (C := RX8) (U := TX8) (N := 10) hx hb hts kX10_findShortest_iX8 hown hK hw 3 (by decide) rfl rfl 2 (by decide) rfl (hts _ kX10_findShortest_f70) (fun _ h9 => h9) dX10_findShortest_9 ?_
  refine lv_icmp_ge (tgt := 62) hx hb dX10_findShortest_12 (by decide) (fun c1 => ?_) (fun c1 => ?_)
  · replace h := ite_t h c1
    refine lv_iload_n hx hb dX10_findShortest_62 rfl (lv_at hl 1 rfl) ?_
    cases h
    exact r_iret C hw rfl (by decide) (by decide) dX10_findShortest_63
  · replace h := ite_f h c1
    refine lv_iload_n hx hb dX10_findShortest_15 rfl (lv_at hl 1 rfl) ?_
    refine lv_if_ne (tgt := 31) hx hb dX10_findShortest_16 (by decide) (fun c2 => ?_) (fun c2 => ?_)
    · replace h := ite_f h c2
      refine lv_iload_n hx hb dX10_findShortest_31 rfl (lv_at hl 1 rfl) ?_
      exact tX10_findShortest_32 C hr4 v1 v2 v1 sg _ _ _ hw (lv_sub hl [0, 1, 2] rfl) h
    · replace h := ite_t h c2
      refine lv_aload_n hx hb dX10_findShortest_19 rfl (lv_at hl 0 rfl) ?_
      refine r_getR (ci := 10) (C := RX10) (U := TX10) (N := 10) hx hb hts kX10_findShortest_iX10 hown hK hw 8 (by decide) rfl rfl 0 (by decide) 3 rfl (hts _ kX10_findShortest_f36) (fun _ h9 => h9) dX10_findShortest_20 ?_
      refine r_getI (ci := 8) (C := RX8) (U := TX8) (N := 10) hx hb hts kX10_findShortest_iX8 hown hK hw 3 (by decide) rfl rfl 2 (by decide) rfl (hts _ kX10_findShortest_f70) (fun _ h9 => h9) dX10_findShortest_23 ?_
      refine lv_iconst (v := (1 : Int32)) hx hb dX10_findShortest_26 (by decide) ?_
      refine lv_iadd hx hb dX10_findShortest_27 ?_
      refine lv_goto (tgt := 32) hx hb dX10_findShortest_28 (by decide) ?_
      exact tX10_findShortest_32 C hr4 v1 v2 ((sg 3 2) + (1 : Int32)) sg _ _ _ hw (lv_sub hl [0, 1, 2] rfl) h
def LX10_findShortest_4  : (Int32 × Int32 × Sg) → Option (Int32 × Sg) := loop (fun rec z => fX10_findShortest_4 rec z.1 z.2.1 z.2.2)
theorem TX10_findShortest_4 (C : Cx p s m args meth c cX10_findShortest 5 RX10 wsX10_findShortest (some .int) D vwCl (tysC T) A true nwL) {ro : Int32} {so : Sg}   : ∀ (v1 : Int32) (v2 : Int32) (sg : Sg), LX10_findShortest_4 (v1, v2, sg) = some (ro, so) → ∀ (H : Heap) (locs : List Loc) (ls : Array Slot), WS ZC D vwCl T ad sg lg A s.heap H locs → lv_has ls 5 [(0, .ref (ad 8)), (1, .int v1), (2, .int v2)] → W p l e rmX10_findShortest s m args below meth c H locs 0 0 (MQ below (QI ZC D vwCl T (tysC T) A (fun z => ad = z) ro so lg) args s 0 0 A) (F0 m 4 ls []) := by
  have key : ∀ z : (Int32 × Int32 × Sg), LX10_findShortest_4  z = some (ro, so) → ∀ (H : Heap) (locs : List Loc) (ls : Array Slot), WS ZC D vwCl T ad z.2.2 lg A s.heap H locs → lv_has ls 5 [(0, .ref (ad 8)), (1, .int z.1), (2, .int z.2.1)] → W p l e rmX10_findShortest s m args below meth c H locs 0 0 (MQ below (QI ZC D vwCl T (tysC T) A (fun z => ad = z) ro so lg) args s 0 0 A) (F0 m 4 ls []) := by
    intro z h
    unfold LX10_findShortest_4 at h
    exact loop_ind (fun rec z => fX10_findShortest_4 rec z.1 z.2.1 z.2.2) (y := (ro, so)) (P := fun z => ∀ (H : Heap) (locs : List Loc) (ls : Array Slot), WS ZC D vwCl T ad z.2.2 lg A s.heap H locs → lv_has ls 5 [(0, .ref (ad 8)), (1, .int z.1), (2, .int z.2.1)] → W p l e rmX10_findShortest s m args below meth c H locs 0 0 (MQ below (QI ZC D vwCl T (tysC T) A (fun z => ad = z) ro so lg) args s 0 0 A) (F0 m 4 ls [])) (fun rec hrec z h H locs ls hw hl => tX10_findShortest_4 C  (fun v1 v2 sg => hrec (v1, v2, sg)) z.1 z.2.1 z.2.2 H locs ls hw hl h) z h
  exact fun v1 v2 sg => key (v1, v2, sg)
def fX10_findShortest  (sg : Sg) : Option (Int32 × Sg) :=
  LX10_findShortest_4 ((0 : Int32), (0 : Int32), sg)
set_option maxHeartbeats 4000000 in
set_option maxRecDepth 100000 in
theorem tX10_findShortest_0 (C : Cx p s m args meth c cX10_findShortest 5 RX10 wsX10_findShortest (some .int) D vwCl (tysC T) A true nwL) {ro : Int32} {so : Sg}   : ∀ (sg : Sg), ∀ (H : Heap) (locs : List Loc) (ls : Array Slot), WS ZC D vwCl T ad sg lg A s.heap H locs → lv_has ls 5 [(0, .ref (ad 8))] → fX10_findShortest sg = some (ro, so) → W p l e rmX10_findShortest s m args below meth c H locs 0 0 (MQ below (QI ZC D vwCl T (tysC T) A (fun z => ad = z) ro so lg) args s 0 0 A) (F0 m 0 ls []) := by
  obtain ⟨⟨hx, hb, hml, hown, hts⟩, hr, hlk, hK, hA, hsp⟩ := id C
  intro sg H locs ls hw hl h
  unfold fX10_findShortest at h
  refine lv_iconst (v := (0 : Int32)) hx hb dX10_findShortest_0 (by decide) ?_
  refine lv_istore_n (lv' := [(1, .int (0 : Int32)), (0, .ref (ad 8))]) hx hb dX10_findShortest_1 rfl hl (by decide) rfl (fun ls hl => ?_)
  refine lv_iconst (v := (0 : Int32)) hx hb dX10_findShortest_2 (by decide) ?_
  refine lv_istore_n (lv' := [(2, .int (0 : Int32)), (1, .int (0 : Int32)), (0, .ref (ad 8))]) hx hb dX10_findShortest_3 rfl hl (by decide) rfl (fun ls hl => ?_)
  exact TX10_findShortest_4 C (0 : Int32) (0 : Int32) sg h _ _ _ hw (lv_sub hl [2, 1, 0] rfl)
theorem mX10_findShortest (l : Launch) (D : va_G) (T : Nat → ClassId) (ad : Nat → Nat) (lg : Lg) (sz : Nat)   (sg : Sg) {ro : Int32} {so : Sg} (h : fX10_findShortest sg = some (ro, so)) : Met l yX10_findShortest wsX10_findShortest rmX10_findShortest (PreZ ZC D vwCl T (tysC T) ad sg lg true nwL [.ref (ad 8)] sz) (QI ZC D vwCl T (tysC T) (va_A (zwd ZC T ad sg lg) sz) (fun z => ad = z) ro so lg) 0 0 (va_A (zwd ZC T ad sg lg) sz) :=
  metZ [.ref (ad 8)] sz (by decide) rfl (Nat.le_of_ble_eq_true rfl) (fun p e s m below meth c ls C hw hl => tX10_findShortest_0 C sg _ _ _ hw hl h)
-- PeckYard$Rings.foundPeck(II)I
def rmX10_foundPeck : Room := { frames := 0, cells := 0, slots := 0, locals := 0 }
theorem kX10_foundPeck_f33 : Cond.fieldLink RX10 33 "PeckYard$Rings" "found" "[I" ∈ wsX10_foundPeck := by decide +kernel
theorem kX10_foundPeck_iX10 : ∀ w ∈ u_ws RX10 TX10 10, w ∈ wsX10_foundPeck := by decide +kernel
def fX10_foundPeck_14  (v1 : Int32) (w0 : Int32) (sg : Sg) : Option (Int32 × Sg) :=
  gin v1 12 (gin w0 12 (some ((((sg 44 v1.toNatClampNeg) * (12 : Int32)) + (sg 44 w0.toNatClampNeg)), sg)))
set_option maxHeartbeats 4000000 in
set_option maxRecDepth 100000 in
theorem tX10_foundPeck_14 (C : Cx p s m args meth c cX10_foundPeck 4 RX10 wsX10_foundPeck (some .int) D vwCl (tysC T) A true nwL) {ro : Int32} {so : Sg}   : ∀ (v1 : Int32) (w0 : Int32) (sg : Sg), ∀ (H : Heap) (locs : List Loc) (ls : Array Slot), WS ZC D vwCl T ad sg lg A s.heap H locs → lv_has ls 4 [(0, .ref (ad 8)), (1, .int v1)] → fX10_foundPeck_14 v1 w0 sg = some (ro, so) → W p l e rmX10_foundPeck s m args below meth c H locs 0 0 (MQ below (QI ZC D vwCl T (tysC T) A (fun z => ad = z) ro so lg) args s 0 0 A) (F0 m 14 ls [.int w0]) := by
  obtain ⟨⟨hx, hb, hml, hown, hts⟩, hr, hlk, hK, hA, hsp⟩ := id C
  intro v1 w0 sg H locs ls hw hl h
  unfold fX10_foundPeck_14 at h
  refine lv_istore_n (lv' := [(3, .int w0), (0, .ref (ad 8)), (1, .int v1)]) hx hb dX10_foundPeck_14 rfl hl (by decide) rfl (fun ls hl => ?_)
  refine lv_aload_n hx hb dX10_foundPeck_15 rfl (lv_at hl 1 rfl) ?_
  refine r_getR (ci := 10) (C := RX10) (U := TX10) (N := 10) hx hb hts kX10_foundPeck_iX10 hown hK hw 8 (by decide) rfl rfl 9 (by decide) 44 rfl (hts _ kX10_foundPeck_f33) (fun _ h9 => h9) dX10_foundPeck_16 ?_
  refine lv_iload_n hx hb dX10_foundPeck_19 rfl (lv_at hl 2 rfl) ?_
  have hi1 := (gin_some h).1
  replace h := (gin_some h).2
  refine r_iald hx hb hK hw 44 0 12 (by decide) rfl rfl rfl hi1 dX10_foundPeck_20 ?_
  refine lv_bipush (v := (12 : Int32)) hx hb dX10_foundPeck_21 (by decide) ?_
  refine lv_imul hx hb dX10_foundPeck_23 ?_
  refine lv_aload_n hx hb dX10_foundPeck_24 rfl (lv_at hl 1 rfl) ?_
  refine r_getR (ci := 10) (C := RX10) (U := TX10) (N := 10) hx hb hts kX10_foundPeck_iX10 hown hK hw 8 (by decide) rfl rfl 9 (by decide) 44 rfl (hts _ kX10_foundPeck_f33) (fun _ h9 => h9) dX10_foundPeck_25 ?_
  refine lv_iload_n hx hb dX10_foundPeck_28 rfl (lv_at hl 0 rfl) ?_
  have hi2 := (gin_some h).1
  replace h := (gin_some h).2
  refine r_iald hx hb hK hw 44 0 12 (by decide) rfl rfl rfl hi2 dX10_foundPeck_29 ?_
  refine lv_iadd hx hb dX10_foundPeck_30 ?_
  cases h
  exact r_iret C hw rfl (by decide) (by decide) dX10_foundPeck_31
def fX10_foundPeck  (v1 : Int32) (v2 : Int32) (sg : Sg) : Option (Int32 × Sg) :=
  (if v2 ≤ (v1 + (1 : Int32)) then fX10_foundPeck_14 v1 (0 : Int32) sg else fX10_foundPeck_14 v1 (v1 + (1 : Int32)) sg)
set_option maxHeartbeats 4000000 in
set_option maxRecDepth 100000 in
theorem tX10_foundPeck_0 (C : Cx p s m args meth c cX10_foundPeck 4 RX10 wsX10_foundPeck (some .int) D vwCl (tysC T) A true nwL) {ro : Int32} {so : Sg}   : ∀ (v1 : Int32) (v2 : Int32) (sg : Sg), ∀ (H : Heap) (locs : List Loc) (ls : Array Slot), WS ZC D vwCl T ad sg lg A s.heap H locs → lv_has ls 4 [(0, .ref (ad 8)), (1, .int v1), (2, .int v2)] → fX10_foundPeck v1 v2 sg = some (ro, so) → W p l e rmX10_foundPeck s m args below meth c H locs 0 0 (MQ below (QI ZC D vwCl T (tysC T) A (fun z => ad = z) ro so lg) args s 0 0 A) (F0 m 0 ls []) := by
  obtain ⟨⟨hx, hb, hml, hown, hts⟩, hr, hlk, hK, hA, hsp⟩ := id C
  intro v1 v2 sg H locs ls hw hl h
  unfold fX10_foundPeck at h
  refine lv_iload_n hx hb dX10_foundPeck_0 rfl (lv_at hl 1 rfl) ?_
  refine lv_iconst (v := (1 : Int32)) hx hb dX10_foundPeck_1 (by decide) ?_
  refine lv_iadd hx hb dX10_foundPeck_2 ?_
  refine lv_iload_n hx hb dX10_foundPeck_3 rfl (lv_at hl 2 rfl) ?_
  refine lv_icmp_ge (tgt := 13) hx hb dX10_foundPeck_4 (by decide) (fun c1 => ?_) (fun c1 => ?_)
  · replace h := ite_t h c1
    refine lv_iconst (v := (0 : Int32)) hx hb dX10_foundPeck_13 (by decide) ?_
    exact tX10_foundPeck_14 C v1 (0 : Int32) sg _ _ _ hw (lv_sub hl [0, 1] rfl) h
  · replace h := ite_f h c1
    refine lv_iload_n hx hb dX10_foundPeck_7 rfl (lv_at hl 1 rfl) ?_
    refine lv_iconst (v := (1 : Int32)) hx hb dX10_foundPeck_8 (by decide) ?_
    refine lv_iadd hx hb dX10_foundPeck_9 ?_
    refine lv_goto (tgt := 14) hx hb dX10_foundPeck_10 (by decide) ?_
    exact tX10_foundPeck_14 C v1 (v1 + (1 : Int32)) sg _ _ _ hw (lv_sub hl [0, 1] rfl) h
theorem mX10_foundPeck (l : Launch) (D : va_G) (T : Nat → ClassId) (ad : Nat → Nat) (lg : Lg) (sz : Nat)   (v1 : Int32) (v2 : Int32) (sg : Sg) {ro : Int32} {so : Sg} (h : fX10_foundPeck v1 v2 sg = some (ro, so)) : Met l yX10_foundPeck wsX10_foundPeck rmX10_foundPeck (PreZ ZC D vwCl T (tysC T) ad sg lg true nwL [.ref (ad 8), .int v1, .int v2] sz) (QI ZC D vwCl T (tysC T) (va_A (zwd ZC T ad sg lg) sz) (fun z => ad = z) ro so lg) 0 0 (va_A (zwd ZC T ad sg lg) sz) :=
  metZ [.ref (ad 8), .int v1, .int v2] sz (by decide) rfl (Nat.le_of_ble_eq_true rfl) (fun p e s m below meth c ls C hw hl => tX10_foundPeck_0 C v1 v2 sg _ _ _ hw hl h)
-- PeckYard$Rings.useUp(I)I
def rmX10_useUp : Room := { frames := 1, cells := 0, slots := 0, locals := 23 }
theorem kX10_useUp_c99 : Cond.constant RX10 99 (1000000) ∈ wsX10_useUp := by decide +kernel
theorem kX10_useUp_f21 : Cond.fieldLink RX10 21 "PeckYard$Rings" "left" "[I" ∈ wsX10_useUp := by decide +kernel
theorem kX10_useUp_iX10 : ∀ w ∈ u_ws RX10 TX10 10, w ∈ wsX10_useUp := by decide +kernel
theorem kX10_useUp_f24 : Cond.fieldLink RX10 24 "PeckYard$Rings" "peckedBy" "[I" ∈ wsX10_useUp := by decide +kernel
theorem kX10_useUp_f27 : Cond.fieldLink RX10 27 "PeckYard$Rings" "peckersOf" "[I" ∈ wsX10_useUp := by decide +kernel
theorem kX10_useUp_m103 : Cond.methodLink RX10 103 Lib.Math.min.name ∈ wsX10_useUp := by decide +kernel
theorem kX10_useUp_s103 : Cond.static Lib.Math.min.name ∈ wsX10_useUp := by decide +kernel
theorem kX10_useUp_ini_Math : Cond.initialized "java/lang/Math" ∈ wsX10_useUp := by decide +kernel
theorem kX10_useUp_cd103 : Cond.code Lib.Math.min.name Lib.Math.min.code 2 (some .int) ∈ wsX10_useUp := by decide +kernel
def fX10_useUp_112 (r34 : (Int32 × Int32 × Int32 × Sg) → Option (Int32 × Sg)) (v1 : Int32) (v2 : Int32) (v3 : Int32) (sg : Sg) : Option (Int32 × Sg) :=
  lt (v3 + (1 : Int32)) (fun x1 => r34 (v1, v2, x1, sg))
set_option maxHeartbeats 4000000 in
set_option maxRecDepth 100000 in
theorem tX10_useUp_112 (C : Cx p s m args meth c cX10_useUp 5 RX10 wsX10_useUp (some .int) D vwCl (tysC T) A true nwL) {ro : Int32} {so : Sg} {r34 : (Int32 × Int32 × Int32 × Sg) → Option (Int32 × Sg)} (hr34 : ∀ (v1 : Int32) (v2 : Int32) (v3 : Int32) (sg : Sg), r34 (v1, v2, v3, sg) = some (ro, so) → ∀ (H : Heap) (locs : List Loc) (ls : Array Slot), WS ZC D vwCl T ad sg lg A s.heap H locs → lv_has ls 5 [(0, .ref (ad 8)), (1, .int v1), (2, .int v2), (3, .int v3)] → W p l e rmX10_useUp s m args below meth c H locs 0 0 (MQ below (QI ZC D vwCl T (tysC T) A (fun z => ad = z) ro so lg) args s 0 0 A) (F0 m 34 ls [])) : ∀ (v1 : Int32) (v2 : Int32) (v3 : Int32) (sg : Sg), ∀ (H : Heap) (locs : List Loc) (ls : Array Slot), WS ZC D vwCl T ad sg lg A s.heap H locs → lv_has ls 5 [(0, .ref (ad 8)), (1, .int v1), (2, .int v2), (3, .int v3)] → fX10_useUp_112 r34 v1 v2 v3 sg = some (ro, so) → W p l e rmX10_useUp s m args below meth c H locs 0 0 (MQ below (QI ZC D vwCl T (tysC T) A (fun z => ad = z) ro so lg) args s 0 0 A) (F0 m 112 ls []) := by
  obtain ⟨⟨hx, hb, hml, hown, hts⟩, hr, hlk, hK, hA, hsp⟩ := id C
  intro v1 v2 v3 sg H locs ls hw hl h
  unfold fX10_useUp_112 at h
  obtain ⟨x1, ex1⟩ : ∃ z : Int32, z = (v3 + (1 : Int32)) := ⟨_, rfl⟩
  replace h := lt_get h x1 ex1
  refine lv_iinc (v := x1) (lv' := [(3, .int x1), (0, .ref (ad 8)), (1, .int v1), (2, .int v2)]) hx hb dX10_useUp_112 hl (k := 3) rfl (by rw [ex1]; rfl) (by decide) rfl (fun ls hl => ?_)
  refine lv_goto (tgt := 34) hx hb dX10_useUp_115 (by decide) ?_
  exact hr34 v1 v2 x1 sg h _ _ _ hw (lv_sub hl [1, 2, 3, 0] rfl)
def fX10_useUp_34 (r34 : (Int32 × Int32 × Int32 × Sg) → Option (Int32 × Sg)) (v1 : Int32) (v2 : Int32) (v3 : Int32) (sg : Sg) : Option (Int32 × Sg) :=
  (if v1 ≤ v3 then some (v2, sg) else bnd2 (fX10_foundPeck v3 v1 sg) (fun y2 sg3 => gin y2 144 (lt ((sg3 40 y2.toNatClampNeg) - v2) (fun x6 => gin y2 144 (lt (up2 sg3 40 y2.toNatClampNeg x6) (fun sg8 => gin y2 144 ((if (sg8 40 y2.toNatClampNeg) = 0 then lt (y2 / (12 : Int32)) (fun x11 => gin x11 12 (lt ((sg8 41 x11.toNatClampNeg) &&& (((1 : Int32) <<< ((y2 - y2 / (12 : Int32) * (12 : Int32)) &&& 31)) ^^^ (-1 : Int32))) (fun x13 => gin x11 12 (lt (up2 sg8 41 x11.toNatClampNeg x13) (fun sg15 => lt (y2 - y2 / (12 : Int32) * (12 : Int32)) (fun x16 => gin x16 12 (lt ((sg15 42 x16.toNatClampNeg) &&& (((1 : Int32) <<< ((y2 / (12 : Int32)) &&& 31)) ^^^ (-1 : Int32))) (fun x18 => gin x16 12 (lt (up2 sg15 42 x16.toNatClampNeg x18) (fun sg20 => fX10_useUp_112 r34 v1 v2 v3 sg20)))))))))) else fX10_useUp_112 r34 v1 v2 v3 sg8))))))))
set_option maxHeartbeats 4000000 in
set_option maxRecDepth 100000 in
theorem tX10_useUp_34 (C : Cx p s m args meth c cX10_useUp 5 RX10 wsX10_useUp (some .int) D vwCl (tysC T) A true nwL) {ro : Int32} {so : Sg} {r34 : (Int32 × Int32 × Int32 × Sg) → Option (Int32 × Sg)} (hr34 : ∀ (v1 : Int32) (v2 : Int32) (v3 : Int32) (sg : Sg), r34 (v1, v2, v3, sg) = some (ro, so) → ∀ (H : Heap) (locs : List Loc) (ls : Array Slot), WS ZC D vwCl T ad sg lg A s.heap H locs → lv_has ls 5 [(0, .ref (ad 8)), (1, .int v1), (2, .int v2), (3, .int v3)] → W p l e rmX10_useUp s m args below meth c H locs 0 0 (MQ below (QI ZC D vwCl T (tysC T) A (fun z => ad = z) ro so lg) args s 0 0 A) (F0 m 34 ls [])) : ∀ (v1 : Int32) (v2 : Int32) (v3 : Int32) (sg : Sg), ∀ (H : Heap) (locs : List Loc) (ls : Array Slot), WS ZC D vwCl T ad sg lg A s.heap H locs → lv_has ls 5 [(0, .ref (ad 8)), (1, .int v1), (2, .int v2), (3, .int v3)] → fX10_useUp_34 r34 v1 v2 v3 sg = some (ro, so) → W p l e rmX10_useUp s m args below meth c H locs 0 0 (MQ below (QI ZC D vwCl T (tysC T) A (fun z => ad = z) ro so lg) args s 0 0 A) (F0 m 34 ls []) := by
  obtain ⟨⟨hx, hb, hml, hown, hts⟩, hr, hlk, hK, hA, hsp⟩ := id C
  intro v1 v2 v3 sg H locs ls hw hl h
  unfold fX10_useUp_34 at h
  refine lv_iload_n hx hb dX10_useUp_34 rfl (lv_at hl 3 rfl) ?_
  refine lv_iload_n hx hb dX10_useUp_35 rfl (lv_at hl 1 rfl) ?_
  refine lv_icmp_ge (tgt := 118) hx hb dX10_useUp_36 (by decide) (fun c1 => ?_) (fun c1 => ?_)
  · replace h := ite_t h c1
    refine lv_iload_n hx hb dX10_useUp_118 rfl (lv_at hl 2 rfl) ?_
    cases h
    exact r_iret C hw rfl (by decide) (by decide) dX10_useUp_119
  · replace h := ite_f h c1
    refine lv_aload_n hx hb dX10_useUp_39 rfl (lv_at hl 0 rfl) ?_
    refine lv_iload_n hx hb dX10_useUp_40 rfl (lv_at hl 3 rfl) ?_
    refine lv_iload_n hx hb dX10_useUp_41 rfl (lv_at hl 1 rfl) ?_
    obtain ⟨y2, sg3, hq4, h2⟩ := bnd2_some h
    replace h := h2
    clear h2
    refine r_cVi (As := [.int v3, .int v1]) (rest := []) C hw 8 (by decide) (ci := 10) rfl rfl (mX10_foundPeck l D T ad lg H.size v3 v1 sg hq4) (cwV 2 hts gX10_useUp_X10_foundPeck rfl rfl rfl (by decide +kernel) ⟨Nat.le_of_ble_eq_true rfl, Nat.le_of_ble_eq_true rfl⟩) rfl hl.1 rfl (Nat.le_of_ble_eq_true rfl) dX10_useUp_42 ⟨Nat.le_of_ble_eq_true rfl, Nat.le_of_ble_eq_true rfl⟩ (fun ad' H locs hp hw => ?_)
    subst hp
    refine W.widen (k := 0) (n := 0) (by decide) (by decide) ?_
    refine lv_istore (lv' := [(4, .int y2), (0, .ref (ad 8)), (1, .int v1), (2, .int v2), (3, .int v3)]) hx hb dX10_useUp_45 hl (by decide) rfl (fun ls hl => ?_)
    refine lv_aload_n hx hb dX10_useUp_47 rfl (lv_at hl 1 rfl) ?_
    refine r_getR (ci := 10) (C := RX10) (U := TX10) (N := 10) hx hb hts kX10_useUp_iX10 hown hK hw 8 (by decide) rfl rfl 5 (by decide) 40 rfl (hts _ kX10_useUp_f21) (fun _ h9 => h9) dX10_useUp_48 ?_
    refine lv_iload hx hb dX10_useUp_51 (lv_at hl 0 rfl) ?_
    refine lv_dup2_11 hx hb dX10_useUp_53 rfl rfl ?_
    have hi5 := (gin_some h).1
    replace h := (gin_some h).2
    refine r_iald hx hb hK hw 40 0 144 (by decide) rfl rfl rfl hi5 dX10_useUp_54 ?_
    refine lv_iload_n hx hb dX10_useUp_55 rfl (lv_at hl 3 rfl) ?_
    refine lv_isub hx hb dX10_useUp_56 ?_
    refine lv_topi (fun x6 ex6 => ?_)
    replace h := lt_get h x6 ex6
    have hi7 := (gin_some h).1
    replace h := (gin_some h).2
    refine r_iast ZC_ok hx hb hK hw 40 0 144 (by decide) rfl rfl rfl hi7 dX10_useUp_57 (fun H locs sg8 esg8 hw => ?_)
    replace h := lt_get h sg8 esg8
    refine lv_aload_n hx hb dX10_useUp_58 rfl (lv_at hl 1 rfl) ?_
    refine r_getR (ci := 10) (C := RX10) (U := TX10) (N := 10) hx hb hts kX10_useUp_iX10 hown hK hw 8 (by decide) rfl rfl 5 (by decide) 40 rfl (hts _ kX10_useUp_f21) (fun _ h9 => h9) dX10_useUp_59 ?_
    refine lv_iload hx hb dX10_useUp_62 (lv_at hl 0 rfl) ?_
    have hi9 := (gin_some h).1
    replace h := (gin_some h).2
    refine r_iald hx hb hK hw 40 0 144 (by decide) rfl rfl rfl hi9 dX10_useUp_64 ?_
    refine lv_if_ne (tgt := 112) hx hb dX10_useUp_65 (by decide) (fun c10 => ?_) (fun c10 => ?_)
    · replace h := ite_f h c10
      exact tX10_useUp_112 C hr34 v1 v2 v3 sg8 _ _ _ hw (lv_sub hl [1, 2, 3, 4] rfl) h
    · replace h := ite_t h c10
      refine lv_aload_n hx hb dX10_useUp_68 rfl (lv_at hl 1 rfl) ?_
      refine r_getR (ci := 10) (C := RX10) (U := TX10) (N := 10) hx hb hts kX10_useUp_iX10 hown hK hw 8 (by decide) rfl rfl 6 (by decide) 41 rfl (hts _ kX10_useUp_f24) (fun _ h9 => h9) dX10_useUp_69 ?_
      refine lv_iload hx hb dX10_useUp_72 (lv_at hl 0 rfl) ?_
      refine lv_bipush (v := (12 : Int32)) hx hb dX10_useUp_74 (by decide) ?_
      refine lv_idiv hx hb dX10_useUp_76 (by decide) ?_
      refine lv_topi (fun x11 ex11 => ?_)
      replace h := lt_get h x11 ex11
      refine lv_dup2_11 hx hb dX10_useUp_77 rfl rfl ?_
      have hi12 := (gin_some h).1
      replace h := (gin_some h).2
      refine r_iald hx hb hK hw 41 0 12 (by decide) rfl rfl rfl hi12 dX10_useUp_78 ?_
      refine lv_iconst (v := (1 : Int32)) hx hb dX10_useUp_79 (by decide) ?_
      refine lv_iload hx hb dX10_useUp_80 (lv_at hl 0 rfl) ?_
      refine lv_bipush (v := (12 : Int32)) hx hb dX10_useUp_82 (by decide) ?_
      refine lv_irem hx hb dX10_useUp_84 (by decide) ?_
      refine lv_ishl hx hb dX10_useUp_85 ?_
      refine lv_iconst (v := (-1 : Int32)) hx hb dX10_useUp_86 (by decide) ?_
      refine lv_ixor hx hb dX10_useUp_87 ?_
      refine lv_iand hx hb dX10_useUp_88 ?_
      refine lv_topi (fun x13 ex13 => ?_)
      replace h := lt_get h x13 ex13
      have hi14 := (gin_some h).1
      replace h := (gin_some h).2
      refine r_iast ZC_ok hx hb hK hw 41 0 12 (by decide) rfl rfl rfl hi14 dX10_useUp_89 (fun H locs sg15 esg15 hw => ?_)
      replace h := lt_get h sg15 esg15
      refine lv_aload_n hx hb dX10_useUp_90 rfl (lv_at hl 1 rfl) ?_
      refine r_getR (ci := 10) (C := RX10) (U := TX10) (N := 10) hx hb hts kX10_useUp_iX10 hown hK hw 8 (by decide) rfl rfl 7 (by decide) 42 rfl (hts _ kX10_useUp_f27) (fun _ h9 => h9) dX10_useUp_91 ?_
      refine lv_iload hx hb dX10_useUp_94 (lv_at hl 0 rfl) ?_
      refine lv_bipush (v := (12 : Int32)) hx hb dX10_useUp_96 (by decide) ?_
      refine lv_irem hx hb dX10_useUp_98 (by decide) ?_
      refine lv_topi (fun x16 ex16 => ?_)
      replace h := lt_get h x16 ex16
      refine lv_dup2_11 hx hb dX10_useUp_99 rfl rfl ?_
      have hi17 := (gin_some h).1
      replace h := (gin_some h).2
      refine r_iald hx hb hK hw 42 0 12 (by decide) rfl rfl rfl hi17 dX10_useUp_100 ?_
      refine lv_iconst (v := (1 : Int32)) hx hb dX10_useUp_101 (by decide) ?_
      refine lv_iload hx hb dX10_useUp_102 (lv_at hl 0 rfl) ?_
      refine lv_bipush (v := (12 : Int32)) hx hb dX10_useUp_104 (by decide) ?_
      refine lv_idiv hx hb dX10_useUp_106 (by decide) ?_
      refine lv_ishl hx hb dX10_useUp_107 ?_
      refine lv_iconst (v := (-1 : Int32)) hx hb dX10_useUp_108 (by decide) ?_
      refine lv_ixor hx hb dX10_useUp_109 ?_
      refine lv_iand hx hb dX10_useUp_110 ?_
      refine lv_topi (fun x18 ex18 => ?_)
      replace h := lt_get h x18 ex18
      have hi19 := (gin_some h).1
      replace h := (gin_some h).2
      refine r_iast ZC_ok hx hb hK hw 42 0 12 (by decide) rfl rfl rfl hi19 dX10_useUp_111 (fun H locs sg20 esg20 hw => ?_)
      replace h := lt_get h sg20 esg20
      exact tX10_useUp_112 C hr34 v1 v2 v3 sg20 _ _ _ hw (lv_sub hl [1, 2, 3, 4] rfl) h
def LX10_useUp_34  : (Int32 × Int32 × Int32 × Sg) → Option (Int32 × Sg) := loop (fun rec z => fX10_useUp_34 rec z.1 z.2.1 z.2.2.1 z.2.2.2)
theorem TX10_useUp_34 (C : Cx p s m args meth c cX10_useUp 5 RX10 wsX10_useUp (some .int) D vwCl (tysC T) A true nwL) {ro : Int32} {so : Sg}   : ∀ (v1 : Int32) (v2 : Int32) (v3 : Int32) (sg : Sg), LX10_useUp_34 (v1, v2, v3, sg) = some (ro, so) → ∀ (H : Heap) (locs : List Loc) (ls : Array Slot), WS ZC D vwCl T ad sg lg A s.heap H locs → lv_has ls 5 [(0, .ref (ad 8)), (1, .int v1), (2, .int v2), (3, .int v3)] → W p l e rmX10_useUp s m args below meth c H locs 0 0 (MQ below (QI ZC D vwCl T (tysC T) A (fun z => ad = z) ro so lg) args s 0 0 A) (F0 m 34 ls []) := by
  have key : ∀ z : (Int32 × Int32 × Int32 × Sg), LX10_useUp_34  z = some (ro, so) → ∀ (H : Heap) (locs : List Loc) (ls : Array Slot), WS ZC D vwCl T ad z.2.2.2 lg A s.heap H locs → lv_has ls 5 [(0, .ref (ad 8)), (1, .int z.1), (2, .int z.2.1), (3, .int z.2.2.1)] → W p l e rmX10_useUp s m args below meth c H locs 0 0 (MQ below (QI ZC D vwCl T (tysC T) A (fun z => ad = z) ro so lg) args s 0 0 A) (F0 m 34 ls []) := by
    intro z h
    unfold LX10_useUp_34 at h
    exact loop_ind (fun rec z => fX10_useUp_34 rec z.1 z.2.1 z.2.2.1 z.2.2.2) (y := (ro, so)) (P := fun z => ∀ (H : Heap) (locs : List Loc) (ls : Array Slot), WS ZC D vwCl T ad z.2.2.2 lg A s.heap H locs → lv_has ls 5 [(0, .ref (ad 8)), (1, .int z.1), (2, .int z.2.1), (3, .int z.2.2.1)] → W p l e rmX10_useUp s m args below meth c H locs 0 0 (MQ below (QI ZC D vwCl T (tysC T) A (fun z => ad = z) ro so lg) args s 0 0 A) (F0 m 34 ls [])) (fun rec hrec z h H locs ls hw hl => tX10_useUp_34 C  (fun v1 v2 v3 sg => hrec (v1, v2, v3, sg)) z.1 z.2.1 z.2.2.1 z.2.2.2 H locs ls hw hl h) z h
  exact fun v1 v2 v3 sg => key (v1, v2, v3, sg)
def fX10_useUp_5 (r5 : (Int32 × Int32 × Int32 × Sg) → Option (Int32 × Sg)) (v1 : Int32) (v2 : Int32) (v3 : Int32) (sg : Sg) : Option (Int32 × Sg) :=
  (if v1 ≤ v3 then LX10_useUp_34 (v1, v2, (0 : Int32), sg) else bnd2 (fX10_foundPeck v3 v1 sg) (fun y2 sg3 => gin y2 144 (lt (if (sg3 40 y2.toNatClampNeg) < v2 then (sg3 40 y2.toNatClampNeg) else v2) (fun x6 => lt (v3 + (1 : Int32)) (fun x7 => r5 (v1, x6, x7, sg3))))))
set_option maxHeartbeats 4000000 in
set_option maxRecDepth 100000 in
theorem tX10_useUp_5 (C : Cx p s m args meth c cX10_useUp 5 RX10 wsX10_useUp (some .int) D vwCl (tysC T) A true nwL) {ro : Int32} {so : Sg} {r5 : (Int32 × Int32 × Int32 × Sg) → Option (Int32 × Sg)} (hr5 : ∀ (v1 : Int32) (v2 : Int32) (v3 : Int32) (sg : Sg), r5 (v1, v2, v3, sg) = some (ro, so) → ∀ (H : Heap) (locs : List Loc) (ls : Array Slot), WS ZC D vwCl T ad sg lg A s.heap H locs → lv_has ls 5 [(0, .ref (ad 8)), (1, .int v1), (2, .int v2), (3, .int v3)] → W p l e rmX10_useUp s m args below meth c H locs 0 0 (MQ below (QI ZC D vwCl T (tysC T) A (fun z => ad = z) ro so lg) args s 0 0 A) (F0 m 5 ls [])) : ∀ (v1 : Int32) (v2 : Int32) (v3 : Int32) (sg : Sg), ∀ (H : Heap) (locs : List Loc) (ls : Array Slot), WS ZC D vwCl T ad sg lg A s.heap H locs → lv_has ls 5 [(0, .ref (ad 8)), (1, .int v1), (2, .int v2), (3, .int v3)] → fX10_useUp_5 r5 v1 v2 v3 sg = some (ro, so) → W p l e rmX10_useUp s m args below meth c H locs 0 0 (MQ below (QI ZC D vwCl T (tysC T) A (fun z => ad = z) ro so lg) args s 0 0 A) (F0 m 5 ls []) := by
  obtain ⟨⟨hx, hb, hml, hown, hts⟩, hr, hlk, hK, hA, hsp⟩ := id C
  intro v1 v2 v3 sg H locs ls hw hl h
  unfold fX10_useUp_5 at h
  refine lv_iload_n hx hb dX10_useUp_5 rfl (lv_at hl 3 rfl) ?_
  refine lv_iload_n hx hb dX10_useUp_6 rfl (lv_at hl 1 rfl) ?_
  refine lv_icmp_ge (tgt := 32) hx hb dX10_useUp_7 (by decide) (fun c1 => ?_) (fun c1 => ?_)
  · replace h := ite_t h c1
    refine lv_iconst (v := (0 : Int32)) hx hb dX10_useUp_32 (by decide) ?_
    refine lv_istore_n (lv' := [(3, .int (0 : Int32)), (0, .ref (ad 8)), (1, .int v1), (2, .int v2)]) hx hb dX10_useUp_33 rfl hl (by decide) rfl (fun ls hl => ?_)
    exact TX10_useUp_34 C v1 v2 (0 : Int32) sg h _ _ _ hw (lv_sub hl [1, 2, 3, 0] rfl)
  · replace h := ite_f h c1
    refine lv_iload_n hx hb dX10_useUp_10 rfl (lv_at hl 2 rfl) ?_
    refine lv_aload_n hx hb dX10_useUp_11 rfl (lv_at hl 0 rfl) ?_
    refine r_getR (ci := 10) (C := RX10) (U := TX10) (N := 10) hx hb hts kX10_useUp_iX10 hown hK hw 8 (by decide) rfl rfl 5 (by decide) 40 rfl (hts _ kX10_useUp_f21) (fun _ h9 => h9) dX10_useUp_12 ?_
    refine lv_aload_n hx hb dX10_useUp_15 rfl (lv_at hl 0 rfl) ?_
    refine lv_iload_n hx hb dX10_useUp_16 rfl (lv_at hl 3 rfl) ?_
    refine lv_iload_n hx hb dX10_useUp_17 rfl (lv_at hl 1 rfl) ?_
    obtain ⟨y2, sg3, hq4, h2⟩ := bnd2_some h
    replace h := h2
    clear h2
    refine r_cVi (As := [.int v3, .int v1]) (rest := [.ref (ad 40), .int v2]) C hw 8 (by decide) (ci := 10) rfl rfl (mX10_foundPeck l D T ad lg H.size v3 v1 sg hq4) (cwV 2 hts gX10_useUp_X10_foundPeck rfl rfl rfl (by decide +kernel) ⟨Nat.le_of_ble_eq_true rfl, Nat.le_of_ble_eq_true rfl⟩) rfl hl.1 rfl (Nat.le_of_ble_eq_true rfl) dX10_useUp_18 ⟨Nat.le_of_ble_eq_true rfl, Nat.le_of_ble_eq_true rfl⟩ (fun ad' H locs hp hw => ?_)
    subst hp
    refine W.widen (k := 0) (n := 0) (by decide) (by decide) ?_
    have hi5 := (gin_some h).1
    replace h := (gin_some h).2
    refine r_iald hx hb hK hw 40 0 144 (by decide) rfl rfl rfl hi5 dX10_useUp_21 ?_
    refine va_mmin hx hb (hml.trans hl.1.symm) hown (hts _ kX10_useUp_m103) (hts _ kX10_useUp_s103) (hts _ kX10_useUp_ini_Math) (hts _ kX10_useUp_cd103) (Nat.le_of_ble_eq_true rfl) (Nat.le_of_ble_eq_true rfl) (Nat.le_of_ble_eq_true rfl) (Nat.le_of_ble_eq_true rfl) dX10_useUp_22 ?_
    refine lv_topi (fun x6 ex6 => ?_)
    replace h := lt_get h x6 ex6
    refine lv_istore_n (lv' := [(2, .int x6), (0, .ref (ad 8)), (1, .int v1), (3, .int v3)]) hx hb dX10_useUp_25 rfl hl (by decide) rfl (fun ls hl => ?_)
    obtain ⟨x7, ex7⟩ : ∃ z : Int32, z = (v3 + (1 : Int32)) := ⟨_, rfl⟩
    replace h := lt_get h x7 ex7
    refine lv_iinc (v := x7) (lv' := [(3, .int x7), (2, .int x6), (0, .ref (ad 8)), (1, .int v1)]) hx hb dX10_useUp_26 hl (k := 3) rfl (by rw [ex7]; rfl) (by decide) rfl (fun ls hl => ?_)
    refine lv_goto (tgt := 5) hx hb dX10_useUp_29 (by decide) ?_
    exact hr5 v1 x6 x7 sg3 h _ _ _ hw (lv_sub hl [2, 3, 1, 0] rfl)
def LX10_useUp_5  : (Int32 × Int32 × Int32 × Sg) → Option (Int32 × Sg) := loop (fun rec z => fX10_useUp_5 rec z.1 z.2.1 z.2.2.1 z.2.2.2)
theorem TX10_useUp_5 (C : Cx p s m args meth c cX10_useUp 5 RX10 wsX10_useUp (some .int) D vwCl (tysC T) A true nwL) {ro : Int32} {so : Sg}   : ∀ (v1 : Int32) (v2 : Int32) (v3 : Int32) (sg : Sg), LX10_useUp_5 (v1, v2, v3, sg) = some (ro, so) → ∀ (H : Heap) (locs : List Loc) (ls : Array Slot), WS ZC D vwCl T ad sg lg A s.heap H locs → lv_has ls 5 [(0, .ref (ad 8)), (1, .int v1), (2, .int v2), (3, .int v3)] → W p l e rmX10_useUp s m args below meth c H locs 0 0 (MQ below (QI ZC D vwCl T (tysC T) A (fun z => ad = z) ro so lg) args s 0 0 A) (F0 m 5 ls []) := by
  have key : ∀ z : (Int32 × Int32 × Int32 × Sg), LX10_useUp_5  z = some (ro, so) → ∀ (H : Heap) (locs : List Loc) (ls : Array Slot), WS ZC D vwCl T ad z.2.2.2 lg A s.heap H locs → lv_has ls 5 [(0, .ref (ad 8)), (1, .int z.1), (2, .int z.2.1), (3, .int z.2.2.1)] → W p l e rmX10_useUp s m args below meth c H locs 0 0 (MQ below (QI ZC D vwCl T (tysC T) A (fun z => ad = z) ro so lg) args s 0 0 A) (F0 m 5 ls []) := by
    intro z h
    unfold LX10_useUp_5 at h
    exact loop_ind (fun rec z => fX10_useUp_5 rec z.1 z.2.1 z.2.2.1 z.2.2.2) (y := (ro, so)) (P := fun z => ∀ (H : Heap) (locs : List Loc) (ls : Array Slot), WS ZC D vwCl T ad z.2.2.2 lg A s.heap H locs → lv_has ls 5 [(0, .ref (ad 8)), (1, .int z.1), (2, .int z.2.1), (3, .int z.2.2.1)] → W p l e rmX10_useUp s m args below meth c H locs 0 0 (MQ below (QI ZC D vwCl T (tysC T) A (fun z => ad = z) ro so lg) args s 0 0 A) (F0 m 5 ls [])) (fun rec hrec z h H locs ls hw hl => tX10_useUp_5 C  (fun v1 v2 v3 sg => hrec (v1, v2, v3, sg)) z.1 z.2.1 z.2.2.1 z.2.2.2 H locs ls hw hl h) z h
  exact fun v1 v2 v3 sg => key (v1, v2, v3, sg)
def fX10_useUp  (v1 : Int32) (sg : Sg) : Option (Int32 × Sg) :=
  LX10_useUp_5 (v1, (1000000 : Int32), (0 : Int32), sg)
set_option maxHeartbeats 4000000 in
set_option maxRecDepth 100000 in
theorem tX10_useUp_0 (C : Cx p s m args meth c cX10_useUp 5 RX10 wsX10_useUp (some .int) D vwCl (tysC T) A true nwL) {ro : Int32} {so : Sg}   : ∀ (v1 : Int32) (sg : Sg), ∀ (H : Heap) (locs : List Loc) (ls : Array Slot), WS ZC D vwCl T ad sg lg A s.heap H locs → lv_has ls 5 [(0, .ref (ad 8)), (1, .int v1)] → fX10_useUp v1 sg = some (ro, so) → W p l e rmX10_useUp s m args below meth c H locs 0 0 (MQ below (QI ZC D vwCl T (tysC T) A (fun z => ad = z) ro so lg) args s 0 0 A) (F0 m 0 ls []) := by
  obtain ⟨⟨hx, hb, hml, hown, hts⟩, hr, hlk, hK, hA, hsp⟩ := id C
  intro v1 sg H locs ls hw hl h
  unfold fX10_useUp at h
  refine lv_ldc hx hb hown (hts _ kX10_useUp_c99) dX10_useUp_0 ?_
  refine lv_istore_n (lv' := [(2, .int (1000000 : Int32)), (0, .ref (ad 8)), (1, .int v1)]) hx hb dX10_useUp_2 rfl hl (by decide) rfl (fun ls hl => ?_)
  refine lv_iconst (v := (0 : Int32)) hx hb dX10_useUp_3 (by decide) ?_
  refine lv_istore_n (lv' := [(3, .int (0 : Int32)), (2, .int (1000000 : Int32)), (0, .ref (ad 8)), (1, .int v1)]) hx hb dX10_useUp_4 rfl hl (by decide) rfl (fun ls hl => ?_)
  exact TX10_useUp_5 C v1 (1000000 : Int32) (0 : Int32) sg h _ _ _ hw (lv_sub hl [2, 3, 1, 0] rfl)
theorem mX10_useUp (l : Launch) (D : va_G) (T : Nat → ClassId) (ad : Nat → Nat) (lg : Lg) (sz : Nat)   (v1 : Int32) (sg : Sg) {ro : Int32} {so : Sg} (h : fX10_useUp v1 sg = some (ro, so)) : Met l yX10_useUp wsX10_useUp rmX10_useUp (PreZ ZC D vwCl T (tysC T) ad sg lg true nwL [.ref (ad 8), .int v1] sz) (QI ZC D vwCl T (tysC T) (va_A (zwd ZC T ad sg lg) sz) (fun z => ad = z) ro so lg) 0 0 (va_A (zwd ZC T ad sg lg) sz) :=
  metZ [.ref (ad 8), .int v1] sz (by decide) rfl (Nat.le_of_ble_eq_true rfl) (fun p e s m below meth c ls C hw hl => tX10_useUp_0 C v1 sg _ _ _ hw hl h)
-- PeckYard$Rings.keepFound(II)V
def rmX10_keepFound : Room := { frames := 0, cells := 0, slots := 0, locals := 0 }
theorem kX10_keepFound_f11 : Cond.fieldLink RX10 11 "PeckYard$Rings" "shares" "[I" ∈ wsX10_keepFound := by decide +kernel
theorem kX10_keepFound_iX10 : ∀ w ∈ u_ws RX10 TX10 10, w ∈ wsX10_keepFound := by decide +kernel
theorem kX10_keepFound_f48 : Cond.fieldLink RX10 48 "PeckYard$Rings" "size" "I" ∈ wsX10_keepFound := by decide +kernel
theorem kX10_keepFound_f15 : Cond.fieldLink RX10 15 "PeckYard$Rings" "lengths" "[I" ∈ wsX10_keepFound := by decide +kernel
theorem kX10_keepFound_f18 : Cond.fieldLink RX10 18 "PeckYard$Rings" "members" "[I" ∈ wsX10_keepFound := by decide +kernel
theorem kX10_keepFound_f36 : Cond.fieldLink RX10 36 "PeckYard$Rings" "muster" "LPeckYard$Muster;" ∈ wsX10_keepFound := by decide +kernel
theorem kX10_keepFound_f108 : Cond.fieldLink RX10 108 "PeckYard$Muster" "hens" "[I" ∈ wsX10_keepFound := by decide +kernel
theorem kX10_keepFound_iX8 : ∀ w ∈ u_ws RX8 TX8 10, w ∈ wsX10_keepFound := by decide +kernel
theorem kX10_keepFound_f33 : Cond.fieldLink RX10 33 "PeckYard$Rings" "found" "[I" ∈ wsX10_keepFound := by decide +kernel
def fX10_keepFound_22 (r22 : (Int32 × Int32 × Sg) → Option (Sg)) (v1 : Int32) (v3 : Int32) (sg : Sg) : Option (Sg) :=
  (if v1 ≤ v3 then lt ((sg 8 1) + (1 : Int32)) (fun x2 => lt (up2 sg 8 1 x2) (fun sg3 => some sg3)) else gin v3 12 (lt (sg 44 v3.toNatClampNeg) (fun x5 => gin x5 12 (lt (sg 17 x5.toNatClampNeg) (fun x7 => gin (((sg 8 1) * (12 : Int32)) + v3) 1584 (lt (up2 sg 39 (((sg 8 1) * (12 : Int32)) + v3).toNatClampNeg x7) (fun sg9 => lt (v3 + (1 : Int32)) (fun x10 => r22 (v1, x10, sg9)))))))))
set_option maxHeartbeats 4000000 in
set_option maxRecDepth 100000 in
theorem tX10_keepFound_22 (C : Cx p s m args meth c cX10_keepFound 4 RX10 wsX10_keepFound none D vwCl (tysC T) A true nwL) {so : Sg} {r22 : (Int32 × Int32 × Sg) → Option (Sg)} (hr22 : ∀ (v1 : Int32) (v3 : Int32) (sg : Sg), r22 (v1, v3, sg) = some so → ∀ (H : Heap) (locs : List Loc) (ls : Array Slot), WS ZC D vwCl T ad sg lg A s.heap H locs → lv_has ls 4 [(0, .ref (ad 8)), (1, .int v1), (3, .int v3)] → W p l e rmX10_keepFound s m args below meth c H locs 0 0 (MQ below (QV ZC D vwCl T (tysC T) A (fun z => ad = z) so lg) args s 0 0 A) (F0 m 22 ls [])) : ∀ (v1 : Int32) (v3 : Int32) (sg : Sg), ∀ (H : Heap) (locs : List Loc) (ls : Array Slot), WS ZC D vwCl T ad sg lg A s.heap H locs → lv_has ls 4 [(0, .ref (ad 8)), (1, .int v1), (3, .int v3)] → fX10_keepFound_22 r22 v1 v3 sg = some so → W p l e rmX10_keepFound s m args below meth c H locs 0 0 (MQ below (QV ZC D vwCl T (tysC T) A (fun z => ad = z) so lg) args s 0 0 A) (F0 m 22 ls []) := by
  obtain ⟨⟨hx, hb, hml, hown, hts⟩, hr, hlk, hK, hA, hsp⟩ := id C
  intro v1 v3 sg H locs ls hw hl h
  unfold fX10_keepFound_22 at h
  refine lv_iload_n hx hb dX10_keepFound_22 rfl (lv_at hl 2 rfl) ?_
  refine lv_iload_n hx hb dX10_keepFound_23 rfl (lv_at hl 1 rfl) ?_
  refine lv_icmp_ge (tgt := 61) hx hb dX10_keepFound_24 (by decide) (fun c1 => ?_) (fun c1 => ?_)
  · replace h := ite_t h c1
    refine lv_aload_n hx hb dX10_keepFound_61 rfl (lv_at hl 0 rfl) ?_
    refine lv_dup hx hb dX10_keepFound_62 rfl ?_
    refine r_getI (ci := 10) (C := RX10) (U := TX10) (N := 10) hx hb hts kX10_keepFound_iX10 hown hK hw 8 (by decide) rfl rfl 1 (by decide) rfl (hts _ kX10_keepFound_f48) (fun _ h9 => h9) dX10_keepFound_63 ?_
    refine lv_iconst (v := (1 : Int32)) hx hb dX10_keepFound_66 (by decide) ?_
    refine lv_iadd hx hb dX10_keepFound_67 ?_
    refine lv_topi (fun x2 ex2 => ?_)
    replace h := lt_get h x2 ex2
    refine r_putI ZC_ok (ci := 10) (C := RX10) (U := TX10) (N := 10) (ty := .int) hx hb hts kX10_keepFound_iX10 tyX10 tyX10_ok nmX10 hown hK hw 8 (by decide) rfl rfl 1 (by decide) rfl (hts _ kX10_keepFound_f48) (fun _ h9 => h9) rfl (by decide +kernel) rfl rfl dX10_keepFound_68 (fun H locs sg3 esg3 hw => ?_)
    replace h := lt_get h sg3 esg3
    cases h
    exact r_vret C hw rfl (by decide) (by decide) dX10_keepFound_71
  · replace h := ite_f h c1
    refine lv_aload_n hx hb dX10_keepFound_27 rfl (lv_at hl 0 rfl) ?_
    refine r_getR (ci := 10) (C := RX10) (U := TX10) (N := 10) hx hb hts kX10_keepFound_iX10 hown hK hw 8 (by decide) rfl rfl 4 (by decide) 39 rfl (hts _ kX10_keepFound_f18) (fun _ h9 => h9) dX10_keepFound_28 ?_
    refine lv_aload_n hx hb dX10_keepFound_31 rfl (lv_at hl 0 rfl) ?_
    refine r_getI (ci := 10) (C := RX10) (U := TX10) (N := 10) hx hb hts kX10_keepFound_iX10 hown hK hw 8 (by decide) rfl rfl 1 (by decide) rfl (hts _ kX10_keepFound_f48) (fun _ h9 => h9) dX10_keepFound_32 ?_
    refine lv_bipush (v := (12 : Int32)) hx hb dX10_keepFound_35 (by decide) ?_
    refine lv_imul hx hb dX10_keepFound_37 ?_
    refine lv_iload_n hx hb dX10_keepFound_38 rfl (lv_at hl 2 rfl) ?_
    refine lv_iadd hx hb dX10_keepFound_39 ?_
    refine lv_aload_n hx hb dX10_keepFound_40 rfl (lv_at hl 0 rfl) ?_
    refine r_getR (ci := 10) (C := RX10) (U := TX10) (N := 10) hx hb hts kX10_keepFound_iX10 hown hK hw 8 (by decide) rfl rfl 0 (by decide) 3 rfl (hts _ kX10_keepFound_f36) (fun _ h9 => h9) dX10_keepFound_41 ?_
    refine r_getR (ci := 8) (C := RX8) (U := TX8) (N := 10) hx hb hts kX10_keepFound_iX8 hown hK hw 3 (by decide) rfl rfl 3 (by decide) 17 rfl (hts _ kX10_keepFound_f108) (fun _ h9 => h9) dX10_keepFound_44 ?_
    refine lv_aload_n hx hb dX10_keepFound_47 rfl (lv_at hl 0 rfl) ?_
    refine r_getR (ci := 10) (C := RX10) (U := TX10) (N := 10) hx hb hts kX10_keepFound_iX10 hown hK hw 8 (by decide) rfl rfl 9 (by decide) 44 rfl (hts _ kX10_keepFound_f33) (fun _ h9 => h9) dX10_keepFound_48 ?_
    refine lv_iload_n hx hb dX10_keepFound_51 rfl (lv_at hl 2 rfl) ?_
    have hi4 := (gin_some h).1
    replace h := (gin_some h).2
    refine r_iald hx hb hK hw 44 0 12 (by decide) rfl rfl rfl hi4 dX10_keepFound_52 ?_
    refine lv_topi (fun x5 ex5 => ?_)
    replace h := lt_get h x5 ex5
    have hi6 := (gin_some h).1
    replace h := (gin_some h).2
    refine r_iald hx hb hK hw 17 0 12 (by decide) rfl rfl rfl hi6 dX10_keepFound_53 ?_
    refine lv_topi (fun x7 ex7 => ?_)
    replace h := lt_get h x7 ex7
    have hi8 := (gin_some h).1
    replace h := (gin_some h).2
    refine r_iast ZC_ok hx hb hK hw 39 0 1584 (by decide) rfl rfl rfl hi8 dX10_keepFound_54 (fun H locs sg9 esg9 hw => ?_)
    replace h := lt_get h sg9 esg9
    obtain ⟨x10, ex10⟩ : ∃ z : Int32, z = (v3 + (1 : Int32)) := ⟨_, rfl⟩
    replace h := lt_get h x10 ex10
    refine lv_iinc (v := x10) (lv' := [(3, .int x10), (0, .ref (ad 8)), (1, .int v1)]) hx hb dX10_keepFound_55 hl (k := 2) rfl (by rw [ex10]; rfl) (by decide) rfl (fun ls hl => ?_)
    refine lv_goto (tgt := 22) hx hb dX10_keepFound_58 (by decide) ?_
    exact hr22 v1 x10 sg9 h _ _ _ hw (lv_sub hl [1, 2, 0] rfl)
def LX10_keepFound_22  : (Int32 × Int32 × Sg) → Option (Sg) := loop (fun rec z => fX10_keepFound_22 rec z.1 z.2.1 z.2.2)
theorem TX10_keepFound_22 (C : Cx p s m args meth c cX10_keepFound 4 RX10 wsX10_keepFound none D vwCl (tysC T) A true nwL) {so : Sg}   : ∀ (v1 : Int32) (v3 : Int32) (sg : Sg), LX10_keepFound_22 (v1, v3, sg) = some so → ∀ (H : Heap) (locs : List Loc) (ls : Array Slot), WS ZC D vwCl T ad sg lg A s.heap H locs → lv_has ls 4 [(0, .ref (ad 8)), (1, .int v1), (3, .int v3)] → W p l e rmX10_keepFound s m args below meth c H locs 0 0 (MQ below (QV ZC D vwCl T (tysC T) A (fun z => ad = z) so lg) args s 0 0 A) (F0 m 22 ls []) := by
  have key : ∀ z : (Int32 × Int32 × Sg), LX10_keepFound_22  z = some so → ∀ (H : Heap) (locs : List Loc) (ls : Array Slot), WS ZC D vwCl T ad z.2.2 lg A s.heap H locs → lv_has ls 4 [(0, .ref (ad 8)), (1, .int z.1), (3, .int z.2.1)] → W p l e rmX10_keepFound s m args below meth c H locs 0 0 (MQ below (QV ZC D vwCl T (tysC T) A (fun z => ad = z) so lg) args s 0 0 A) (F0 m 22 ls []) := by
    intro z h
    unfold LX10_keepFound_22 at h
    exact loop_ind (fun rec z => fX10_keepFound_22 rec z.1 z.2.1 z.2.2) (y := so) (P := fun z => ∀ (H : Heap) (locs : List Loc) (ls : Array Slot), WS ZC D vwCl T ad z.2.2 lg A s.heap H locs → lv_has ls 4 [(0, .ref (ad 8)), (1, .int z.1), (3, .int z.2.1)] → W p l e rmX10_keepFound s m args below meth c H locs 0 0 (MQ below (QV ZC D vwCl T (tysC T) A (fun z => ad = z) so lg) args s 0 0 A) (F0 m 22 ls [])) (fun rec hrec z h H locs ls hw hl => tX10_keepFound_22 C  (fun v1 v3 sg => hrec (v1, v3, sg)) z.1 z.2.1 z.2.2 H locs ls hw hl h) z h
  exact fun v1 v3 sg => key (v1, v3, sg)
def fX10_keepFound  (v1 : Int32) (v2 : Int32) (sg : Sg) : Option (Sg) :=
  gin (sg 8 1) 132 (lt (up2 sg 37 (sg 8 1).toNatClampNeg v2) (fun sg2 => gin (sg2 8 1) 132 (lt (up2 sg2 38 (sg2 8 1).toNatClampNeg v1) (fun sg4 => LX10_keepFound_22 (v1, (0 : Int32), sg4)))))
set_option maxHeartbeats 4000000 in
set_option maxRecDepth 100000 in
theorem tX10_keepFound_0 (C : Cx p s m args meth c cX10_keepFound 4 RX10 wsX10_keepFound none D vwCl (tysC T) A true nwL) {so : Sg}   : ∀ (v1 : Int32) (v2 : Int32) (sg : Sg), ∀ (H : Heap) (locs : List Loc) (ls : Array Slot), WS ZC D vwCl T ad sg lg A s.heap H locs → lv_has ls 4 [(0, .ref (ad 8)), (1, .int v1), (2, .int v2)] → fX10_keepFound v1 v2 sg = some so → W p l e rmX10_keepFound s m args below meth c H locs 0 0 (MQ below (QV ZC D vwCl T (tysC T) A (fun z => ad = z) so lg) args s 0 0 A) (F0 m 0 ls []) := by
  obtain ⟨⟨hx, hb, hml, hown, hts⟩, hr, hlk, hK, hA, hsp⟩ := id C
  intro v1 v2 sg H locs ls hw hl h
  unfold fX10_keepFound at h
  refine lv_aload_n hx hb dX10_keepFound_0 rfl (lv_at hl 0 rfl) ?_
  refine r_getR (ci := 10) (C := RX10) (U := TX10) (N := 10) hx hb hts kX10_keepFound_iX10 hown hK hw 8 (by decide) rfl rfl 2 (by decide) 37 rfl (hts _ kX10_keepFound_f11) (fun _ h9 => h9) dX10_keepFound_1 ?_
  refine lv_aload_n hx hb dX10_keepFound_4 rfl (lv_at hl 0 rfl) ?_
  refine r_getI (ci := 10) (C := RX10) (U := TX10) (N := 10) hx hb hts kX10_keepFound_iX10 hown hK hw 8 (by decide) rfl rfl 1 (by decide) rfl (hts _ kX10_keepFound_f48) (fun _ h9 => h9) dX10_keepFound_5 ?_
  refine lv_iload_n hx hb dX10_keepFound_8 rfl (lv_at hl 2 rfl) ?_
  have hi1 := (gin_some h).1
  replace h := (gin_some h).2
  refine r_iast ZC_ok hx hb hK hw 37 0 132 (by decide) rfl rfl rfl hi1 dX10_keepFound_9 (fun H locs sg2 esg2 hw => ?_)
  replace h := lt_get h sg2 esg2
  refine lv_aload_n hx hb dX10_keepFound_10 rfl (lv_at hl 0 rfl) ?_
  refine r_getR (ci := 10) (C := RX10) (U := TX10) (N := 10) hx hb hts kX10_keepFound_iX10 hown hK hw 8 (by decide) rfl rfl 3 (by decide) 38 rfl (hts _ kX10_keepFound_f15) (fun _ h9 => h9) dX10_keepFound_11 ?_
  refine lv_aload_n hx hb dX10_keepFound_14 rfl (lv_at hl 0 rfl) ?_
  refine r_getI (ci := 10) (C := RX10) (U := TX10) (N := 10) hx hb hts kX10_keepFound_iX10 hown hK hw 8 (by decide) rfl rfl 1 (by decide) rfl (hts _ kX10_keepFound_f48) (fun _ h9 => h9) dX10_keepFound_15 ?_
  refine lv_iload_n hx hb dX10_keepFound_18 rfl (lv_at hl 1 rfl) ?_
  have hi3 := (gin_some h).1
  replace h := (gin_some h).2
  refine r_iast ZC_ok hx hb hK hw 38 0 132 (by decide) rfl rfl rfl hi3 dX10_keepFound_19 (fun H locs sg4 esg4 hw => ?_)
  replace h := lt_get h sg4 esg4
  refine lv_iconst (v := (0 : Int32)) hx hb dX10_keepFound_20 (by decide) ?_
  refine lv_istore_n (lv' := [(3, .int (0 : Int32)), (0, .ref (ad 8)), (1, .int v1), (2, .int v2)]) hx hb dX10_keepFound_21 rfl hl (by decide) rfl (fun ls hl => ?_)
  exact TX10_keepFound_22 C v1 (0 : Int32) sg4 h _ _ _ hw (lv_sub hl [1, 2, 0] rfl)
theorem mX10_keepFound (l : Launch) (D : va_G) (T : Nat → ClassId) (ad : Nat → Nat) (lg : Lg) (sz : Nat)   (v1 : Int32) (v2 : Int32) (sg : Sg) {so : Sg} (h : fX10_keepFound v1 v2 sg = some so) : Met l yX10_keepFound wsX10_keepFound rmX10_keepFound (PreZ ZC D vwCl T (tysC T) ad sg lg true nwL [.ref (ad 8), .int v1, .int v2] sz) (QV ZC D vwCl T (tysC T) (va_A (zwd ZC T ad sg lg) sz) (fun z => ad = z) so lg) 0 0 (va_A (zwd ZC T ad sg lg) sz) :=
  metZ [.ref (ad 8), .int v1, .int v2] sz (by decide) rfl (Nat.le_of_ble_eq_true rfl) (fun p e s m below meth c ls C hw hl => tX10_keepFound_0 C v1 v2 sg _ _ _ hw hl h)
end ZC
