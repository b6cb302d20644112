section ZM
variable {p : Program} {l : Launch} {e : Env} {s : State} {m : MethodId} {args : Array Value} {below : List Frame} {meth : Method} {c : Code} {D : va_G} {T : Nat → ClassId} {A : Nat → Prop} {ad a : Nat → Nat}
-- PeckYardModel.stand(I)J
def rmX12_stand : Room := { frames := 2, cells := 0, slots := 0, locals := 46 }
theorem kX12_stand_c72 : Cond.constantLong RX12 72 (-2000000001) ∈ wsX12_stand := by decide +kernel
theorem kX12_stand_f153 : Cond.fieldLink RX12 153 "PeckYardModel" "inHand" "I" ∈ wsX12_stand := by decide +kernel
theorem kX12_stand_iX12 : ∀ w ∈ u_ws RX12 TX12 18, w ∈ wsX12_stand := by decide +kernel
theorem kX12_stand_f16 : Cond.fieldLink RX12 16 "PeckYardModel" "hand" "[I" ∈ wsX12_stand := by decide +kernel
theorem kX12_stand_c74 : Cond.constantLong RX12 74 (-2000000003) ∈ wsX12_stand := by decide +kernel
def fX12_stand  (v1 : Int32) (sg : Sg) (lg : Lg) : Option (Int64 × Sg × Lg) :=
  bnd3 (fX12_isHen v1 sg lg) (fun y1 sg2 lg3 => (if y1 = 0 then some ((-2000000001 : Int64), sg2, lg3) else bnd3 (fX12_stands v1 sg2 lg3) (fun y6 sg7 lg8 => (if y6 = 0 then (if (sg7 0 4) = (12 : Int32) then some ((-2000000003 : Int64), sg7, lg8) else gin (sg7 0 4) 12 (lt (up2 sg7 3 (sg7 0 4).toNatClampNeg v1) (fun sg13 => lt ((sg13 0 4) + (1 : Int32)) (fun x14 => lt (up2 sg13 0 4 x14) (fun sg15 => some ((sg15 0 4).toInt64, sg15, lg8)))))) else some ((-2000000001 : Int64), sg7, lg8)))))
set_option maxHeartbeats 4000000 in
set_option maxRecDepth 100000 in
theorem tX12_stand_0 (C : Cx p s m args meth c cX12_stand 2 RX12 wsX12_stand (some .long) D vwCl (tysM T) A false []) {ro : Int64} {so : Sg} {lo : Lg}   : ∀ (v1 : Int32) (sg : Sg) (lg : Lg), ∀ (H : Heap) (locs : List Loc) (ls : Array Slot), WS ZM D vwCl T ad sg lg A s.heap H locs → lv_has ls 2 [(0, .ref (ad 0)), (1, .int v1)] → fX12_stand v1 sg lg = some (ro, so, lo) → W p l e rmX12_stand s m args below meth c H locs 0 0 (MQ below (QL ZM D vwCl T (tysM T) A (fun z => ad = z) ro so lo) args s 0 0 A) (F0 m 0 ls []) := by
  obtain ⟨⟨hx, hb, hml, hown, hts⟩, hr, hlk, hK, hA, hsp⟩ := id C
  intro v1 sg lg H locs ls hw hl h
  unfold fX12_stand at h
  refine lv_aload_n hx hb dX12_stand_0 rfl (lv_at hl 0 rfl) ?_
  refine lv_iload_n hx hb dX12_stand_1 rfl (lv_at hl 1 rfl) ?_
  obtain ⟨y1, sg2, lg3, hq4, h2⟩ := bnd3_some h
  replace h := h2
  clear h2
  refine r_cVi (As := [.int v1]) (rest := []) C hw 0 (by decide) (ci := 12) rfl rfl (mX12_isHen l D T ad  H.size v1 sg lg hq4) (cwV 1 hts gX12_stand_X12_isHen rfl rfl rfl (by decide +kernel) ⟨Nat.le_of_ble_eq_true rfl, Nat.le_of_ble_eq_true rfl⟩) rfl hl.1 rfl (Nat.le_of_ble_eq_true rfl) dX12_stand_2 ⟨Nat.le_of_ble_eq_true rfl, Nat.le_of_ble_eq_true rfl⟩ (fun ad' H locs hp hw => ?_)
  subst hp
  refine W.widen (k := 0) (n := 0) (by decide) (by decide) ?_
  refine lv_if_eq (tgt := 16) hx hb dX12_stand_5 (by decide) (fun c5 => ?_) (fun c5 => ?_)
  · replace h := ite_t h c5
    refine lv_ldc2 hx hb hown (hts _ kX12_stand_c72) dX12_stand_16 ?_
    cases h
    exact r_lret C hw rfl (by decide) (by decide) dX12_stand_19
  · replace h := ite_f h c5
    refine lv_aload_n hx hb dX12_stand_8 rfl (lv_at hl 0 rfl) ?_
    refine lv_iload_n hx hb dX12_stand_9 rfl (lv_at hl 1 rfl) ?_
    obtain ⟨y6, sg7, lg8, hq9, h2⟩ := bnd3_some h
    replace h := h2
    clear h2
    refine r_cVi (As := [.int v1]) (rest := []) C hw 0 (by decide) (ci := 12) rfl rfl (mX12_stands l D T ad  H.size v1 sg2 lg3 hq9) (cwV 1 hts gX12_stand_X12_stands rfl rfl rfl (by decide +kernel) ⟨Nat.le_of_ble_eq_true rfl, Nat.le_of_ble_eq_true rfl⟩) rfl hl.1 rfl (Nat.le_of_ble_eq_true rfl) dX12_stand_10 ⟨Nat.le_of_ble_eq_true rfl, Nat.le_of_ble_eq_true rfl⟩ (fun ad' H locs hp hw => ?_)
    subst hp
    refine W.widen (k := 0) (n := 0) (by decide) (by decide) ?_
    refine lv_if_eq (tgt := 20) hx hb dX12_stand_13 (by decide) (fun c10 => ?_) (fun c10 => ?_)
    · replace h := ite_t h c10
      refine lv_aload_n hx hb dX12_stand_20 rfl (lv_at hl 0 rfl) ?_
      refine r_getI (ci := 12) (C := RX12) (U := TX12) (N := 18) hx hb hts kX12_stand_iX12 hown hK hw 0 (by decide) rfl rfl 4 (by decide) rfl (hts _ kX12_stand_f153) (fun _ h9 => h9) dX12_stand_21 ?_
      refine lv_bipush (v := (12 : Int32)) hx hb dX12_stand_24 (by decide) ?_
      refine lv_icmp_ne (tgt := 33) hx hb dX12_stand_26 (by decide) (fun c11 => ?_) (fun c11 => ?_)
      · replace h := ite_f h c11
        refine lv_aload_n hx hb dX12_stand_33 rfl (lv_at hl 0 rfl) ?_
        refine r_getR (ci := 12) (C := RX12) (U := TX12) (N := 18) hx hb hts kX12_stand_iX12 hown hK hw 0 (by decide) rfl rfl 3 (by decide) 3 rfl (hts _ kX12_stand_f16) (fun _ h9 => h9) dX12_stand_34 ?_
        refine lv_aload_n hx hb dX12_stand_37 rfl (lv_at hl 0 rfl) ?_
        refine r_getI (ci := 12) (C := RX12) (U := TX12) (N := 18) hx hb hts kX12_stand_iX12 hown hK hw 0 (by decide) rfl rfl 4 (by decide) rfl (hts _ kX12_stand_f153) (fun _ h9 => h9) dX12_stand_38 ?_
        refine lv_iload_n hx hb dX12_stand_41 rfl (lv_at hl 1 rfl) ?_
        have hi12 := (gin_some h).1
        replace h := (gin_some h).2
        refine r_iast ZM_ok hx hb hK hw 3 0 12 (by decide) rfl rfl rfl hi12 dX12_stand_42 (fun H locs sg13 esg13 hw => ?_)
        replace h := lt_get h sg13 esg13
        refine lv_aload_n hx hb dX12_stand_43 rfl (lv_at hl 0 rfl) ?_
        refine lv_dup hx hb dX12_stand_44 rfl ?_
        refine r_getI (ci := 12) (C := RX12) (U := TX12) (N := 18) hx hb hts kX12_stand_iX12 hown hK hw 0 (by decide) rfl rfl 4 (by decide) rfl (hts _ kX12_stand_f153) (fun _ h9 => h9) dX12_stand_45 ?_
        refine lv_iconst (v := (1 : Int32)) hx hb dX12_stand_48 (by decide) ?_
        refine lv_iadd hx hb dX12_stand_49 ?_
        refine lv_topi (fun x14 ex14 => ?_)
        replace h := lt_get h x14 ex14
        refine r_putI ZM_ok (ci := 12) (C := RX12) (U := TX12) (N := 18) (ty := .int) hx hb hts kX12_stand_iX12 tyX12 tyX12_ok nmX12 hown hK hw 0 (by decide) rfl rfl 4 (by decide) rfl (hts _ kX12_stand_f153) (fun _ h9 => h9) rfl (by decide +kernel) rfl rfl dX12_stand_50 (fun H locs sg15 esg15 hw => ?_)
        replace h := lt_get h sg15 esg15
        refine lv_aload_n hx hb dX12_stand_53 rfl (lv_at hl 0 rfl) ?_
        refine r_getI (ci := 12) (C := RX12) (U := TX12) (N := 18) hx hb hts kX12_stand_iX12 hown hK hw 0 (by decide) rfl rfl 4 (by decide) rfl (hts _ kX12_stand_f153) (fun _ h9 => h9) dX12_stand_54 ?_
        refine lv_i2l (v := (sg15 0 4).toInt64) hx hb dX12_stand_57 rfl ?_
        cases h
        exact r_lret C hw rfl (by decide) (by decide) dX12_stand_58
      · replace h := ite_t h c11
        refine lv_ldc2 hx hb hown (hts _ kX12_stand_c74) dX12_stand_29 ?_
        cases h
        exact r_lret C hw rfl (by decide) (by decide) dX12_stand_32
    · replace h := ite_f h c10
      refine lv_ldc2 hx hb hown (hts _ kX12_stand_c72) dX12_stand_16 ?_
      cases h
      exact r_lret C hw rfl (by decide) (by decide) dX12_stand_19
theorem mX12_stand (l : Launch) (D : va_G) (T : Nat → ClassId) (ad : Nat → Nat)  (sz : Nat)   (v1 : Int32) (sg : Sg) (lg : Lg) {ro : Int64} {so : Sg} {lo : Lg} (h : fX12_stand v1 sg lg = some (ro, so, lo)) : Met l yX12_stand wsX12_stand rmX12_stand (PreZ ZM D vwCl T (tysM T) ad sg lg false [] [.ref (ad 0), .int v1] sz) (QL ZM D vwCl T (tysM T) (va_A (zwd ZM T ad sg lg) sz) (fun z => ad = z) ro so lo) 0 0 (va_A (zwd ZM T ad sg lg) sz) :=
  metZ [.ref (ad 0), .int v1] sz (by decide) rfl (Nat.le_of_ble_eq_true rfl) (fun p e s m below meth c ls C hw hl => tX12_stand_0 C v1 sg lg _ _ _ hw hl h)
-- PeckYardModel.order(I)J
def rmX12_order : Room := { frames := 1, cells := 0, slots := 0, locals := 25 }
theorem kX12_order_f153 : Cond.fieldLink RX12 153 "PeckYardModel" "inHand" "I" ∈ wsX12_order := by decide +kernel
theorem kX12_order_iX12 : ∀ w ∈ u_ws RX12 TX12 18, w ∈ wsX12_order := by decide +kernel
theorem kX12_order_c72 : Cond.constantLong RX12 72 (-2000000001) ∈ wsX12_order := by decide +kernel
theorem kX12_order_f16 : Cond.fieldLink RX12 16 "PeckYardModel" "hand" "[I" ∈ wsX12_order := by decide +kernel
def fX12_order  (v1 : Int32) (sg : Sg) (lg : Lg) : Option (Int64 × Sg × Lg) :=
  bnd3 (fX12_isIn v1.toInt64 (0 : Int64) (((sg 0 4) - (1 : Int32)).toInt64) sg lg) (fun y1 sg2 lg3 => (if y1 = 0 then some ((-2000000001 : Int64), sg2, lg3) else gin v1 12 (some ((sg2 3 v1.toNatClampNeg).toInt64, sg2, lg3))))
set_option maxHeartbeats 4000000 in
set_option maxRecDepth 100000 in
theorem tX12_order_0 (C : Cx p s m args meth c cX12_order 2 RX12 wsX12_order (some .long) D vwCl (tysM T) A false []) {ro : Int64} {so : Sg} {lo : Lg}   : ∀ (v1 : Int32) (sg : Sg) (lg : Lg), ∀ (H : Heap) (locs : List Loc) (ls : Array Slot), WS ZM D vwCl T ad sg lg A s.heap H locs → lv_has ls 2 [(0, .ref (ad 0)), (1, .int v1)] → fX12_order v1 sg lg = some (ro, so, lo) → W p l e rmX12_order s m args below meth c H locs 0 0 (MQ below (QL ZM D vwCl T (tysM T) A (fun z => ad = z) ro so lo) args s 0 0 A) (F0 m 0 ls []) := by
  obtain ⟨⟨hx, hb, hml, hown, hts⟩, hr, hlk, hK, hA, hsp⟩ := id C
  intro v1 sg lg H locs ls hw hl h
  unfold fX12_order at h
  refine lv_iload_n hx hb dX12_order_0 rfl (lv_at hl 1 rfl) ?_
  refine lv_i2l (v := v1.toInt64) hx hb dX12_order_1 rfl ?_
  refine lv_lconst (v := (0 : Int64)) hx hb dX12_order_2 (by decide) ?_
  refine lv_aload_n hx hb dX12_order_3 rfl (lv_at hl 0 rfl) ?_
  refine r_getI (ci := 12) (C := RX12) (U := TX12) (N := 18) hx hb hts kX12_order_iX12 hown hK hw 0 (by decide) rfl rfl 4 (by decide) rfl (hts _ kX12_order_f153) (fun _ h9 => h9) dX12_order_4 ?_
  refine lv_iconst (v := (1 : Int32)) hx hb dX12_order_7 (by decide) ?_
  refine lv_isub hx hb dX12_order_8 ?_
  refine lv_i2l (v := ((sg 0 4) - (1 : Int32)).toInt64) hx hb dX12_order_9 rfl ?_
  obtain ⟨y1, sg2, lg3, hq4, h2⟩ := bnd3_some h
  replace h := h2
  clear h2
  refine r_cSi (As := [.long v1.toInt64, .long (0 : Int64), .long (((sg 0 4) - (1 : Int32)).toInt64)]) (rest := []) C hw (mX12_isIn l D T ad  H.size v1.toInt64 (0 : Int64) (((sg 0 4) - (1 : Int32)).toInt64) sg lg hq4) (va_cwS 3 hts gX12_order_X12_isIn rfl rfl rfl (by decide +kernel) ⟨Nat.le_of_ble_eq_true rfl, Nat.le_of_ble_eq_true rfl⟩) rfl hl.1 rfl (Nat.le_of_ble_eq_true rfl) dX12_order_10 ⟨Nat.le_of_ble_eq_true rfl, Nat.le_of_ble_eq_true rfl⟩ (fun ad' H locs hp hw => ?_)
  subst hp
  refine W.widen (k := 0) (n := 0) (by decide) (by decide) ?_
  refine lv_if_eq (tgt := 26) hx hb dX12_order_13 (by decide) (fun c5 => ?_) (fun c5 => ?_)
  · replace h := ite_t h c5
    refine lv_ldc2 hx hb hown (hts _ kX12_order_c72) dX12_order_26 ?_
    cases h
    exact r_lret C hw rfl (by decide) (by decide) dX12_order_29
  · replace h := ite_f h c5
    refine lv_aload_n hx hb dX12_order_16 rfl (lv_at hl 0 rfl) ?_
    refine r_getR (ci := 12) (C := RX12) (U := TX12) (N := 18) hx hb hts kX12_order_iX12 hown hK hw 0 (by decide) rfl rfl 3 (by decide) 3 rfl (hts _ kX12_order_f16) (fun _ h9 => h9) dX12_order_17 ?_
    refine lv_iload_n hx hb dX12_order_20 rfl (lv_at hl 1 rfl) ?_
    have hi6 := (gin_some h).1
    replace h := (gin_some h).2
    refine r_iald hx hb hK hw 3 0 12 (by decide) rfl rfl rfl hi6 dX12_order_21 ?_
    refine lv_i2l (v := (sg2 3 v1.toNatClampNeg).toInt64) hx hb dX12_order_22 rfl ?_
    refine lv_goto (tgt := 29) hx hb dX12_order_23 (by decide) ?_
    cases h
    exact r_lret C hw rfl (by decide) (by decide) dX12_order_29
theorem mX12_order (l : Launch) (D : va_G) (T : Nat → ClassId) (ad : Nat → Nat)  (sz : Nat)   (v1 : Int32) (sg : Sg) (lg : Lg) {ro : Int64} {so : Sg} {lo : Lg} (h : fX12_order v1 sg lg = some (ro, so, lo)) : Met l yX12_order wsX12_order rmX12_order (PreZ ZM D vwCl T (tysM T) ad sg lg false [] [.ref (ad 0), .int v1] sz) (QL ZM D vwCl T (tysM T) (va_A (zwd ZM T ad sg lg) sz) (fun z => ad = z) ro so lo) 0 0 (va_A (zwd ZM T ad sg lg) sz) :=
  metZ [.ref (ad 0), .int v1] sz (by decide) rfl (Nat.le_of_ble_eq_true rfl) (fun p e s m below meth c ls C hw hl => tX12_order_0 C v1 sg lg _ _ _ hw hl h)
-- PeckYardModel.shift(II)V
def rmX12_shift : Room := { frames := 0, cells := 0, slots := 0, locals := 0 }
theorem kX12_shift_f16 : Cond.fieldLink RX12 16 "PeckYardModel" "hand" "[I" ∈ wsX12_shift := by decide +kernel
theorem kX12_shift_iX12 : ∀ w ∈ u_ws RX12 TX12 18, w ∈ wsX12_shift := by decide +kernel
def fX12_shift_22 (r22 : (Int32 × Int32 × Int32 × Int32 × Sg × Lg) → Option (Sg × Lg)) (v2 : Int32) (v3 : Int32) (v4 : Int32) (v5 : Int32) (sg : Sg) (lg : Lg) : Option (Sg × Lg) :=
  (if v5 = v2 then gin v2 12 (lt (up2 sg 3 v2.toNatClampNeg v3) (fun sg3 => some (sg3, lg))) else lt (v5 + v4) (fun x4 => gin x4 12 (lt (sg 3 x4.toNatClampNeg) (fun x6 => gin v5 12 (lt (up2 sg 3 v5.toNatClampNeg x6) (fun sg8 => lt (v5 + v4) (fun x9 => r22 (v2, v3, v4, x9, sg8, lg))))))))
set_option maxHeartbeats 4000000 in
set_option maxRecDepth 100000 in
theorem tX12_shift_22 (C : Cx p s m args meth c cX12_shift 6 RX12 wsX12_shift none D vwCl (tysM T) A false []) {so : Sg} {lo : Lg} {r22 : (Int32 × Int32 × Int32 × Int32 × Sg × Lg) → Option (Sg × Lg)} (hr22 : ∀ (v2 : Int32) (v3 : Int32) (v4 : Int32) (v5 : Int32) (sg : Sg) (lg : Lg), r22 (v2, v3, v4, v5, sg, lg) = some (so, lo) → ∀ (H : Heap) (locs : List Loc) (ls : Array Slot), WS ZM D vwCl T ad sg lg A s.heap H locs → lv_has ls 6 [(0, .ref (ad 0)), (2, .int v2), (3, .int v3), (4, .int v4), (5, .int v5)] → W p l e rmX12_shift s m args below meth c H locs 0 0 (MQ below (QV ZM D vwCl T (tysM T) A (fun z => ad = z) so lo) args s 0 0 A) (F0 m 22 ls [])) : ∀ (v2 : Int32) (v3 : Int32) (v4 : Int32) (v5 : Int32) (sg : Sg) (lg : Lg), ∀ (H : Heap) (locs : List Loc) (ls : Array Slot), WS ZM D vwCl T ad sg lg A s.heap H locs → lv_has ls 6 [(0, .ref (ad 0)), (2, .int v2), (3, .int v3), (4, .int v4), (5, .int v5)] → fX12_shift_22 r22 v2 v3 v4 v5 sg lg = some (so, lo) → W p l e rmX12_shift s m args below meth c H locs 0 0 (MQ below (QV ZM D vwCl T (tysM T) A (fun z => ad = z) so lo) args s 0 0 A) (F0 m 22 ls []) := by
  obtain ⟨⟨hx, hb, hml, hown, hts⟩, hr, hlk, hK, hA, hsp⟩ := id C
  intro v2 v3 v4 v5 sg lg H locs ls hw hl h
  unfold fX12_shift_22 at h
  refine lv_iload hx hb dX12_shift_22 (lv_at hl 4 rfl) ?_
  refine lv_iload_n hx hb dX12_shift_24 rfl (lv_at hl 1 rfl) ?_
  refine lv_icmp_eq (tgt := 55) hx hb dX12_shift_25 (by decide) (fun c1 => ?_) (fun c1 => ?_)
  · replace h := ite_t h c1
    refine lv_aload_n hx hb dX12_shift_55 rfl (lv_at hl 0 rfl) ?_
    refine r_getR (ci := 12) (C := RX12) (U := TX12) (N := 18) hx hb hts kX12_shift_iX12 hown hK hw 0 (by decide) rfl rfl 3 (by decide) 3 rfl (hts _ kX12_shift_f16) (fun _ h9 => h9) dX12_shift_56 ?_
    refine lv_iload_n hx hb dX12_shift_59 rfl (lv_at hl 1 rfl) ?_
    refine lv_iload_n hx hb dX12_shift_60 rfl (lv_at hl 2 rfl) ?_
    have hi2 := (gin_some h).1
    replace h := (gin_some h).2
    refine r_iast ZM_ok hx hb hK hw 3 0 12 (by decide) rfl rfl rfl hi2 dX12_shift_61 (fun H locs sg3 esg3 hw => ?_)
    replace h := lt_get h sg3 esg3
    cases h
    exact r_vret C hw rfl (by decide) (by decide) dX12_shift_62
  · replace h := ite_f h c1
    refine lv_aload_n hx hb dX12_shift_28 rfl (lv_at hl 0 rfl) ?_
    refine r_getR (ci := 12) (C := RX12) (U := TX12) (N := 18) hx hb hts kX12_shift_iX12 hown hK hw 0 (by decide) rfl rfl 3 (by decide) 3 rfl (hts _ kX12_shift_f16) (fun _ h9 => h9) dX12_shift_29 ?_
    refine lv_iload hx hb dX12_shift_32 (lv_at hl 4 rfl) ?_
    refine lv_aload_n hx hb dX12_shift_34 rfl (lv_at hl 0 rfl) ?_
    refine r_getR (ci := 12) (C := RX12) (U := TX12) (N := 18) hx hb hts kX12_shift_iX12 hown hK hw 0 (by decide) rfl rfl 3 (by decide) 3 rfl (hts _ kX12_shift_f16) (fun _ h9 => h9) dX12_shift_35 ?_
    refine lv_iload hx hb dX12_shift_38 (lv_at hl 4 rfl) ?_
    refine lv_iload hx hb dX12_shift_40 (lv_at hl 3 rfl) ?_
    refine lv_iadd hx hb dX12_shift_42 ?_
    refine lv_topi (fun x4 ex4 => ?_)
    replace h := lt_get h x4 ex4
    have hi5 := (gin_some h).1
    replace h := (gin_some h).2
    refine r_iald hx hb hK hw 3 0 12 (by decide) rfl rfl rfl hi5 dX12_shift_43 ?_
    refine lv_topi (fun x6 ex6 => ?_)
    replace h := lt_get h x6 ex6
    have hi7 := (gin_some h).1
    replace h := (gin_some h).2
    refine r_iast ZM_ok hx hb hK hw 3 0 12 (by decide) rfl rfl rfl hi7 dX12_shift_44 (fun H locs sg8 esg8 hw => ?_)
    replace h := lt_get h sg8 esg8
    refine lv_iload hx hb dX12_shift_45 (lv_at hl 4 rfl) ?_
    refine lv_iload hx hb dX12_shift_47 (lv_at hl 3 rfl) ?_
    refine lv_iadd hx hb dX12_shift_49 ?_
    refine lv_topi (fun x9 ex9 => ?_)
    replace h := lt_get h x9 ex9
    refine lv_istore (lv' := [(5, .int x9), (0, .ref (ad 0)), (2, .int v2), (3, .int v3), (4, .int v4)]) hx hb dX12_shift_50 hl (by decide) rfl (fun ls hl => ?_)
    refine lv_goto (tgt := 22) hx hb dX12_shift_52 (by decide) ?_
    exact hr22 v2 v3 v4 x9 sg8 lg h _ _ _ hw (lv_sub hl [1, 2, 3, 4, 0] rfl)
def LX12_shift_22  : (Int32 × Int32 × Int32 × Int32 × Sg × Lg) → Option (Sg × Lg) := loop (fun rec z => fX12_shift_22 rec z.1 z.2.1 z.2.2.1 z.2.2.2.1 z.2.2.2.2.1 z.2.2.2.2.2)
theorem TX12_shift_22 (C : Cx p s m args meth c cX12_shift 6 RX12 wsX12_shift none D vwCl (tysM T) A false []) {so : Sg} {lo : Lg}   : ∀ (v2 : Int32) (v3 : Int32) (v4 : Int32) (v5 : Int32) (sg : Sg) (lg : Lg), LX12_shift_22 (v2, v3, v4, v5, sg, lg) = some (so, lo) → ∀ (H : Heap) (locs : List Loc) (ls : Array Slot), WS ZM D vwCl T ad sg lg A s.heap H locs → lv_has ls 6 [(0, .ref (ad 0)), (2, .int v2), (3, .int v3), (4, .int v4), (5, .int v5)] → W p l e rmX12_shift s m args below meth c H locs 0 0 (MQ below (QV ZM D vwCl T (tysM T) A (fun z => ad = z) so lo) args s 0 0 A) (F0 m 22 ls []) := by
  have key : ∀ z : (Int32 × Int32 × Int32 × Int32 × Sg × Lg), LX12_shift_22  z = some (so, lo) → ∀ (H : Heap) (locs : List Loc) (ls : Array Slot), WS ZM D vwCl T ad z.2.2.2.2.1 z.2.2.2.2.2 A s.heap H locs → lv_has ls 6 [(0, .ref (ad 0)), (2, .int z.1), (3, .int z.2.1), (4, .int z.2.2.1), (5, .int z.2.2.2.1)] → W p l e rmX12_shift s m args below meth c H locs 0 0 (MQ below (QV ZM D vwCl T (tysM T) A (fun z => ad = z) so lo) args s 0 0 A) (F0 m 22 ls []) := by
    intro z h
    unfold LX12_shift_22 at h
    exact loop_ind (fun rec z => fX12_shift_22 rec z.1 z.2.1 z.2.2.1 z.2.2.2.1 z.2.2.2.2.1 z.2.2.2.2.2) (y := (so, lo)) (P := fun z => ∀ (H : Heap) (locs : List Loc) (ls : Array Slot), WS ZM D vwCl T ad z.2.2.2.2.1 z.2.2.2.2.2 A s.heap H locs → lv_has ls 6 [(0, .ref (ad 0)), (2, .int z.1), (3, .int z.2.1), (4, .int z.2.2.1), (5, .int z.2.2.2.1)] → W p l e rmX12_shift s m args below meth c H locs 0 0 (MQ below (QV ZM D vwCl T (tysM T) A (fun z => ad = z) so lo) args s 0 0 A) (F0 m 22 ls [])) (fun rec hrec z h H locs ls hw hl => tX12_shift_22 C  (fun v2 v3 v4 v5 sg lg => hrec (v2, v3, v4, v5, sg, lg)) z.1 z.2.1 z.2.2.1 z.2.2.2.1 z.2.2.2.2.1 z.2.2.2.2.2 H locs ls hw hl h) z h
  exact fun v2 v3 v4 v5 sg lg => key (v2, v3, v4, v5, sg, lg)
def fX12_shift_17  (v1 : Int32) (v2 : Int32) (v3 : Int32) (w0 : Int32) (sg : Sg) (lg : Lg) : Option (Sg × Lg) :=
  LX12_shift_22 (v2, v3, w0, v1, sg, lg)
set_option maxHeartbeats 4000000 in
set_option maxRecDepth 100000 in
theorem tX12_shift_17 (C : Cx p s m args meth c cX12_shift 6 RX12 wsX12_shift none D vwCl (tysM T) A false []) {so : Sg} {lo : Lg}   : ∀ (v1 : Int32) (v2 : Int32) (v3 : Int32) (w0 : Int32) (sg : Sg) (lg : Lg), ∀ (H : Heap) (locs : List Loc) (ls : Array Slot), WS ZM D vwCl T ad sg lg A s.heap H locs → lv_has ls 6 [(0, .ref (ad 0)), (1, .int v1), (2, .int v2), (3, .int v3)] → fX12_shift_17 v1 v2 v3 w0 sg lg = some (so, lo) → W p l e rmX12_shift s m args below meth c H locs 0 0 (MQ below (QV ZM D vwCl T (tysM T) A (fun z => ad = z) so lo) args s 0 0 A) (F0 m 17 ls [.int w0]) := by
  obtain ⟨⟨hx, hb, hml, hown, hts⟩, hr, hlk, hK, hA, hsp⟩ := id C
  intro v1 v2 v3 w0 sg lg H locs ls hw hl h
  unfold fX12_shift_17 at h
  refine lv_istore (lv' := [(4, .int w0), (0, .ref (ad 0)), (1, .int v1), (2, .int v2), (3, .int v3)]) hx hb dX12_shift_17 hl (by decide) rfl (fun ls hl => ?_)
  refine lv_iload_n hx hb dX12_shift_19 rfl (lv_at hl 2 rfl) ?_
  refine lv_istore (lv' := [(5, .int v1), (4, .int w0), (0, .ref (ad 0)), (1, .int v1), (2, .int v2), (3, .int v3)]) hx hb dX12_shift_20 hl (by decide) rfl (fun ls hl => ?_)
  exact TX12_shift_22 C v2 v3 w0 v1 sg lg h _ _ _ hw (lv_sub hl [2, 4, 5, 1, 0] rfl)
def fX12_shift  (v1 : Int32) (v2 : Int32) (sg : Sg) (lg : Lg) : Option (Sg × Lg) :=
  gin v1 12 (lt (sg 3 v1.toNatClampNeg) (fun x2 => (if v2 ≤ v1 then fX12_shift_17 v1 v2 x2 (-1 : Int32) sg lg else fX12_shift_17 v1 v2 x2 (1 : Int32) sg lg)))
set_option maxHeartbeats 4000000 in
set_option maxRecDepth 100000 in
theorem tX12_shift_0 (C : Cx p s m args meth c cX12_shift 6 RX12 wsX12_shift none D vwCl (tysM T) A false []) {so : Sg} {lo : Lg}   : ∀ (v1 : Int32) (v2 : Int32) (sg : Sg) (lg : Lg), ∀ (H : Heap) (locs : List Loc) (ls : Array Slot), WS ZM D vwCl T ad sg lg A s.heap H locs → lv_has ls 6 [(0, .ref (ad 0)), (1, .int v1), (2, .int v2)] → fX12_shift v1 v2 sg lg = some (so, lo) → W p l e rmX12_shift s m args below meth c H locs 0 0 (MQ below (QV ZM D vwCl T (tysM T) A (fun z => ad = z) so lo) args s 0 0 A) (F0 m 0 ls []) := by
  obtain ⟨⟨hx, hb, hml, hown, hts⟩, hr, hlk, hK, hA, hsp⟩ := id C
  intro v1 v2 sg lg H locs ls hw hl h
  unfold fX12_shift at h
  refine lv_aload_n hx hb dX12_shift_0 rfl (lv_at hl 0 rfl) ?_
  refine r_getR (ci := 12) (C := RX12) (U := TX12) (N := 18) hx hb hts kX12_shift_iX12 hown hK hw 0 (by decide) rfl rfl 3 (by decide) 3 rfl (hts _ kX12_shift_f16) (fun _ h9 => h9) dX12_shift_1 ?_
  refine lv_iload_n hx hb dX12_shift_4 rfl (lv_at hl 1 rfl) ?_
  have hi1 := (gin_some h).1
  replace h := (gin_some h).2
  refine r_iald hx hb hK hw 3 0 12 (by decide) rfl rfl rfl hi1 dX12_shift_5 ?_
  refine lv_topi (fun x2 ex2 => ?_)
  replace h := lt_get h x2 ex2
  refine lv_istore_n (lv' := [(3, .int x2), (0, .ref (ad 0)), (1, .int v1), (2, .int v2)]) hx hb dX12_shift_6 rfl hl (by decide) rfl (fun ls hl => ?_)
  refine lv_iload_n hx hb dX12_shift_7 rfl (lv_at hl 2 rfl) ?_
  refine lv_iload_n hx hb dX12_shift_8 rfl (lv_at hl 3 rfl) ?_
  refine lv_icmp_ge (tgt := 16) hx hb dX12_shift_9 (by decide) (fun c3 => ?_) (fun c3 => ?_)
  · replace h := ite_t h c3
    refine lv_iconst (v := (-1 : Int32)) hx hb dX12_shift_16 (by decide) ?_
    exact tX12_shift_17 C v1 v2 x2 (-1 : Int32) sg lg _ _ _ hw (lv_sub hl [1, 2, 3, 0] rfl) h
  · replace h := ite_f h c3
    refine lv_iconst (v := (1 : Int32)) hx hb dX12_shift_12 (by decide) ?_
    refine lv_goto (tgt := 17) hx hb dX12_shift_13 (by decide) ?_
    exact tX12_shift_17 C v1 v2 x2 (1 : Int32) sg lg _ _ _ hw (lv_sub hl [1, 2, 3, 0] rfl) h
theorem mX12_shift (l : Launch) (D : va_G) (T : Nat → ClassId) (ad : Nat → Nat)  (sz : Nat)   (v1 : Int32) (v2 : Int32) (sg : Sg) (lg : Lg) {so : Sg} {lo : Lg} (h : fX12_shift v1 v2 sg lg = some (so, lo)) : Met l yX12_shift wsX12_shift rmX12_shift (PreZ ZM D vwCl T (tysM T) ad sg lg false [] [.ref (ad 0), .int v1, .int v2] sz) (QV ZM D vwCl T (tysM T) (va_A (zwd ZM T ad sg lg) sz) (fun z => ad = z) so lo) 0 0 (va_A (zwd ZM T ad sg lg) sz) :=
  metZ [.ref (ad 0), .int v1, .int v2] sz (by decide) rfl (Nat.le_of_ble_eq_true rfl) (fun p e s m below meth c ls C hw hl => tX12_shift_0 C v1 v2 sg lg _ _ _ hw hl h)
-- PeckYardModel.move(II)J
def rmX12_move : Room := { frames := 1, cells := 0, slots := 0, locals := 25 }
theorem kX12_move_f153 : Cond.fieldLink RX12 153 "PeckYardModel" "inHand" "I" ∈ wsX12_move := by decide +kernel
theorem kX12_move_iX12 : ∀ w ∈ u_ws RX12 TX12 18, w ∈ wsX12_move := by decide +kernel
theorem kX12_move_c72 : Cond.constantLong RX12 72 (-2000000001) ∈ wsX12_move := by decide +kernel
def fX12_move  (v1 : Int32) (v2 : Int32) (sg : Sg) (lg : Lg) : Option (Int64 × Sg × Lg) :=
  bnd3 (fX12_isIn v1.toInt64 (0 : Int64) (((sg 0 4) - (1 : Int32)).toInt64) sg lg) (fun y1 sg2 lg3 => (if y1 = 0 then some ((-2000000001 : Int64), sg2, lg3) else bnd3 (fX12_isIn v2.toInt64 (0 : Int64) (((sg2 0 4) - (1 : Int32)).toInt64) sg2 lg3) (fun y6 sg7 lg8 => (if y6 = 0 then some ((-2000000001 : Int64), sg7, lg8) else bnd2 (fX12_shift v1 v2 sg7 lg8) (fun sg11 lg12 => some ((0 : Int64), sg11, lg12))))))
set_option maxHeartbeats 4000000 in
set_option maxRecDepth 100000 in
theorem tX12_move_0 (C : Cx p s m args meth c cX12_move 3 RX12 wsX12_move (some .long) D vwCl (tysM T) A false []) {ro : Int64} {so : Sg} {lo : Lg}   : ∀ (v1 : Int32) (v2 : Int32) (sg : Sg) (lg : Lg), ∀ (H : Heap) (locs : List Loc) (ls : Array Slot), WS ZM D vwCl T ad sg lg A s.heap H locs → lv_has ls 3 [(0, .ref (ad 0)), (1, .int v1), (2, .int v2)] → fX12_move v1 v2 sg lg = some (ro, so, lo) → W p l e rmX12_move s m args below meth c H locs 0 0 (MQ below (QL ZM D vwCl T (tysM T) A (fun z => ad = z) ro so lo) args s 0 0 A) (F0 m 0 ls []) := by
  obtain ⟨⟨hx, hb, hml, hown, hts⟩, hr, hlk, hK, hA, hsp⟩ := id C
  intro v1 v2 sg lg H locs ls hw hl h
  unfold fX12_move at h
  refine lv_iload_n hx hb dX12_move_0 rfl (lv_at hl 1 rfl) ?_
  refine lv_i2l (v := v1.toInt64) hx hb dX12_move_1 rfl ?_
  refine lv_lconst (v := (0 : Int64)) hx hb dX12_move_2 (by decide) ?_
  refine lv_aload_n hx hb dX12_move_3 rfl (lv_at hl 0 rfl) ?_
  refine r_getI (ci := 12) (C := RX12) (U := TX12) (N := 18) hx hb hts kX12_move_iX12 hown hK hw 0 (by decide) rfl rfl 4 (by decide) rfl (hts _ kX12_move_f153) (fun _ h9 => h9) dX12_move_4 ?_
  refine lv_iconst (v := (1 : Int32)) hx hb dX12_move_7 (by decide) ?_
  refine lv_isub hx hb dX12_move_8 ?_
  refine lv_i2l (v := ((sg 0 4) - (1 : Int32)).toInt64) hx hb dX12_move_9 rfl ?_
  obtain ⟨y1, sg2, lg3, hq4, h2⟩ := bnd3_some h
  replace h := h2
  clear h2
  refine r_cSi (As := [.long v1.toInt64, .long (0 : Int64), .long (((sg 0 4) - (1 : Int32)).toInt64)]) (rest := []) C hw (mX12_isIn l D T ad  H.size v1.toInt64 (0 : Int64) (((sg 0 4) - (1 : Int32)).toInt64) sg lg hq4) (va_cwS 3 hts gX12_move_X12_isIn rfl rfl rfl (by decide +kernel) ⟨Nat.le_of_ble_eq_true rfl, Nat.le_of_ble_eq_true rfl⟩) rfl hl.1 rfl (Nat.le_of_ble_eq_true rfl) dX12_move_10 ⟨Nat.le_of_ble_eq_true rfl, Nat.le_of_ble_eq_true rfl⟩ (fun ad' H locs hp hw => ?_)
  subst hp
  refine W.widen (k := 0) (n := 0) (by decide) (by decide) ?_
  refine lv_if_eq (tgt := 32) hx hb dX12_move_13 (by decide) (fun c5 => ?_) (fun c5 => ?_)
  · replace h := ite_t h c5
    refine lv_ldc2 hx hb hown (hts _ kX12_move_c72) dX12_move_32 ?_
    cases h
    exact r_lret C hw rfl (by decide) (by decide) dX12_move_35
  · replace h := ite_f h c5
    refine lv_iload_n hx hb dX12_move_16 rfl (lv_at hl 2 rfl) ?_
    refine lv_i2l (v := v2.toInt64) hx hb dX12_move_17 rfl ?_
    refine lv_lconst (v := (0 : Int64)) hx hb dX12_move_18 (by decide) ?_
    refine lv_aload_n hx hb dX12_move_19 rfl (lv_at hl 0 rfl) ?_
    refine r_getI (ci := 12) (C := RX12) (U := TX12) (N := 18) hx hb hts kX12_move_iX12 hown hK hw 0 (by decide) rfl rfl 4 (by decide) rfl (hts _ kX12_move_f153) (fun _ h9 => h9) dX12_move_20 ?_
    refine lv_iconst (v := (1 : Int32)) hx hb dX12_move_23 (by decide) ?_
    refine lv_isub hx hb dX12_move_24 ?_
    refine lv_i2l (v := ((sg2 0 4) - (1 : Int32)).toInt64) hx hb dX12_move_25 rfl ?_
    obtain ⟨y6, sg7, lg8, hq9, h2⟩ := bnd3_some h
    replace h := h2
    clear h2
    refine r_cSi (As := [.long v2.toInt64, .long (0 : Int64), .long (((sg2 0 4) - (1 : Int32)).toInt64)]) (rest := []) C hw (mX12_isIn l D T ad  H.size v2.toInt64 (0 : Int64) (((sg2 0 4) - (1 : Int32)).toInt64) sg2 lg3 hq9) (va_cwS 3 hts gX12_move_X12_isIn rfl rfl rfl (by decide +kernel) ⟨Nat.le_of_ble_eq_true rfl, Nat.le_of_ble_eq_true rfl⟩) rfl hl.1 rfl (Nat.le_of_ble_eq_true rfl) dX12_move_26 ⟨Nat.le_of_ble_eq_true rfl, Nat.le_of_ble_eq_true rfl⟩ (fun ad' H locs hp hw => ?_)
    subst hp
    refine W.widen (k := 0) (n := 0) (by decide) (by decide) ?_
    refine lv_if_ne (tgt := 36) hx hb dX12_move_29 (by decide) (fun c10 => ?_) (fun c10 => ?_)
    · replace h := ite_f h c10
      refine lv_aload_n hx hb dX12_move_36 rfl (lv_at hl 0 rfl) ?_
      refine lv_iload_n hx hb dX12_move_37 rfl (lv_at hl 1 rfl) ?_
      refine lv_iload_n hx hb dX12_move_38 rfl (lv_at hl 2 rfl) ?_
      obtain ⟨sg11, lg12, hq13, h2⟩ := bnd2_some h
      replace h := h2
      clear h2
      refine r_cVv (As := [.int v1, .int v2]) (rest := []) C hw 0 (by decide) (ci := 12) rfl rfl (mX12_shift l D T ad  H.size v1 v2 sg7 lg8 hq13) (cwV 2 hts gX12_move_X12_shift rfl rfl rfl (by decide +kernel) ⟨Nat.le_of_ble_eq_true rfl, Nat.le_of_ble_eq_true rfl⟩) rfl hl.1 rfl (Nat.le_of_ble_eq_true rfl) dX12_move_39 ⟨Nat.le_of_ble_eq_true rfl, Nat.le_of_ble_eq_true rfl⟩ (fun ad' H locs hp hw => ?_)
      subst hp
      refine W.widen (k := 0) (n := 0) (by decide) (by decide) ?_
      refine lv_lconst (v := (0 : Int64)) hx hb dX12_move_42 (by decide) ?_
      cases h
      exact r_lret C hw rfl (by decide) (by decide) dX12_move_43
    · replace h := ite_t h c10
      refine lv_ldc2 hx hb hown (hts _ kX12_move_c72) dX12_move_32 ?_
      cases h
      exact r_lret C hw rfl (by decide) (by decide) dX12_move_35
theorem mX12_move (l : Launch) (D : va_G) (T : Nat → ClassId) (ad : Nat → Nat)  (sz : Nat)   (v1 : Int32) (v2 : Int32) (sg : Sg) (lg : Lg) {ro : Int64} {so : Sg} {lo : Lg} (h : fX12_move v1 v2 sg lg = some (ro, so, lo)) : Met l yX12_move wsX12_move rmX12_move (PreZ ZM D vwCl T (tysM T) ad sg lg false [] [.ref (ad 0), .int v1, .int v2] sz) (QL ZM D vwCl T (tysM T) (va_A (zwd ZM T ad sg lg) sz) (fun z => ad = z) ro so lo) 0 0 (va_A (zwd ZM T ad sg lg) sz) :=
  metZ [.ref (ad 0), .int v1, .int v2] sz (by decide) rfl (Nat.le_of_ble_eq_true rfl) (fun p e s m below meth c ls C hw hl => tX12_move_0 C v1 v2 sg lg _ _ _ hw hl h)
-- PeckYardModel.weightNow()J
def rmX12_weightNow : Room := { frames := 1, cells := 0, slots := 0, locals := 22 }
theorem kX12_weightNow_f153 : Cond.fieldLink RX12 153 "PeckYardModel" "inHand" "I" ∈ wsX12_weightNow := by decide +kernel
theorem kX12_weightNow_iX12 : ∀ w ∈ u_ws RX12 TX12 18, w ∈ wsX12_weightNow := by decide +kernel
theorem kX12_weightNow_f16 : Cond.fieldLink RX12 16 "PeckYardModel" "hand" "[I" ∈ wsX12_weightNow := by decide +kernel
def fX12_weightNow_15 (r4 : (Int64 × Int32 × Sg × Lg) → Option (Int64 × Sg × Lg)) (r15 : (Int64 × Int32 × Int32 × Sg × Lg) → Option (Int64 × Sg × Lg)) (v1 : Int64) (v3 : Int32) (v4 : Int32) (sg : Sg) (lg : Lg) : Option (Int64 × Sg × Lg) :=
  (if v3 ≤ v4 then lt (v3 + (1 : Int32)) (fun x2 => r4 (v1, x2, sg, lg)) else gin v3 12 (gin v4 12 (bnd3 (fX12_peckOf (sg 3 v3.toNatClampNeg) (sg 3 v4.toNatClampNeg) sg lg) (fun y5 sg6 lg7 => lt (v1 + y5.toInt64) (fun x9 => lt (v4 + (1 : Int32)) (fun x10 => r15 (x9, v3, x10, sg6, lg7)))))))
set_option maxHeartbeats 4000000 in
set_option maxRecDepth 100000 in
theorem tX12_weightNow_15 (C : Cx p s m args meth c cX12_weightNow 5 RX12 wsX12_weightNow (some .long) D vwCl (tysM T) A false []) {ro : Int64} {so : Sg} {lo : Lg} {r4 : (Int64 × Int32 × Sg × Lg) → Option (Int64 × Sg × Lg)} {r15 : (Int64 × Int32 × Int32 × Sg × Lg) → Option (Int64 × Sg × Lg)} (hr4 : ∀ (v1 : Int64) (v3 : Int32) (sg : Sg) (lg : Lg), r4 (v1, v3, sg, lg) = some (ro, so, lo) → ∀ (H : Heap) (locs : List Loc) (ls : Array Slot), WS ZM D vwCl T ad sg lg A s.heap H locs → lv_has ls 5 [(0, .ref (ad 0)), (1, .long v1), (3, .int v3)] → W p l e rmX12_weightNow s m args below meth c H locs 0 0 (MQ below (QL ZM D vwCl T (tysM T) A (fun z => ad = z) ro so lo) args s 0 0 A) (F0 m 4 ls [])) (hr15 : ∀ (v1 : Int64) (v3 : Int32) (v4 : Int32) (sg : Sg) (lg : Lg), r15 (v1, v3, v4, sg, lg) = some (ro, so, lo) → ∀ (H : Heap) (locs : List Loc) (ls : Array Slot), WS ZM D vwCl T ad sg lg A s.heap H locs → lv_has ls 5 [(0, .ref (ad 0)), (1, .long v1), (3, .int v3), (4, .int v4)] → W p l e rmX12_weightNow s m args below meth c H locs 0 0 (MQ below (QL ZM D vwCl T (tysM T) A (fun z => ad = z) ro so lo) args s 0 0 A) (F0 m 15 ls [])) : ∀ (v1 : Int64) (v3 : Int32) (v4 : Int32) (sg : Sg) (lg : Lg), ∀ (H : Heap) (locs : List Loc) (ls : Array Slot), WS ZM D vwCl T ad sg lg A s.heap H locs → lv_has ls 5 [(0, .ref (ad 0)), (1, .long v1), (3, .int v3), (4, .int v4)] → fX12_weightNow_15 r4 r15 v1 v3 v4 sg lg = some (ro, so, lo) → W p l e rmX12_weightNow s m args below meth c H locs 0 0 (MQ below (QL ZM D vwCl T (tysM T) A (fun z => ad = z) ro so lo) args s 0 0 A) (F0 m 15 ls []) := by
  obtain ⟨⟨hx, hb, hml, hown, hts⟩, hr, hlk, hK, hA, hsp⟩ := id C
  intro v1 v3 v4 sg lg H locs ls hw hl h
  unfold fX12_weightNow_15 at h
  refine lv_iload hx hb dX12_weightNow_15 (lv_at hl 3 rfl) ?_
  refine lv_iload_n hx hb dX12_weightNow_17 rfl (lv_at hl 2 rfl) ?_
  refine lv_icmp_ge (tgt := 48) hx hb dX12_weightNow_18 (by decide) (fun c1 => ?_) (fun c1 => ?_)
  · replace h := ite_t h c1
    obtain ⟨x2, ex2⟩ : ∃ z : Int32, z = (v3 + (1 : Int32)) := ⟨_, rfl⟩
    replace h := lt_get h x2 ex2
    refine lv_iinc (v := x2) (lv' := [(3, .int x2), (0, .ref (ad 0)), (1, .long v1), (4, .int v4)]) hx hb dX12_weightNow_48 hl (k := 2) rfl (by rw [ex2]; rfl) (by decide) rfl (fun ls hl => ?_)
    refine lv_goto (tgt := 4) hx hb dX12_weightNow_51 (by decide) ?_
    exact hr4 v1 x2 sg lg h _ _ _ hw (lv_sub hl [1, 2, 0] rfl)
  · replace h := ite_f h c1
    refine lv_lload_n hx hb dX12_weightNow_21 rfl (lv_at hl 1 rfl) ?_
    refine lv_aload_n hx hb dX12_weightNow_22 rfl (lv_at hl 0 rfl) ?_
    refine lv_aload_n hx hb dX12_weightNow_23 rfl (lv_at hl 0 rfl) ?_
    refine r_getR (ci := 12) (C := RX12) (U := TX12) (N := 18) hx hb hts kX12_weightNow_iX12 hown hK hw 0 (by decide) rfl rfl 3 (by decide) 3 rfl (hts _ kX12_weightNow_f16) (fun _ h9 => h9) dX12_weightNow_24 ?_
    refine lv_iload_n hx hb dX12_weightNow_27 rfl (lv_at hl 2 rfl) ?_
    have hi3 := (gin_some h).1
    replace h := (gin_some h).2
    refine r_iald hx hb hK hw 3 0 12 (by decide) rfl rfl rfl hi3 dX12_weightNow_28 ?_
    refine lv_aload_n hx hb dX12_weightNow_29 rfl (lv_at hl 0 rfl) ?_
    refine r_getR (ci := 12) (C := RX12) (U := TX12) (N := 18) hx hb hts kX12_weightNow_iX12 hown hK hw 0 (by decide) rfl rfl 3 (by decide) 3 rfl (hts _ kX12_weightNow_f16) (fun _ h9 => h9) dX12_weightNow_30 ?_
    refine lv_iload hx hb dX12_weightNow_33 (lv_at hl 3 rfl) ?_
    have hi4 := (gin_some h).1
    replace h := (gin_some h).2
    refine r_iald hx hb hK hw 3 0 12 (by decide) rfl rfl rfl hi4 dX12_weightNow_35 ?_
    obtain ⟨y5, sg6, lg7, hq8, h2⟩ := bnd3_some h
    replace h := h2
    clear h2
    refine r_cVi (As := [.int (sg 3 v3.toNatClampNeg), .int (sg 3 v4.toNatClampNeg)]) (rest := [.long v1]) C hw 0 (by decide) (ci := 12) rfl rfl (mX12_peckOf l D T ad  H.size (sg 3 v3.toNatClampNeg) (sg 3 v4.toNatClampNeg) sg lg hq8) (cwV 2 hts gX12_weightNow_X12_peckOf rfl rfl rfl (by decide +kernel) ⟨Nat.le_of_ble_eq_true rfl, Nat.le_of_ble_eq_true rfl⟩) rfl hl.1 rfl (Nat.le_of_ble_eq_true rfl) dX12_weightNow_36 ⟨Nat.le_of_ble_eq_true rfl, Nat.le_of_ble_eq_true rfl⟩ (fun ad' H locs hp hw => ?_)
    subst hp
    refine W.widen (k := 0) (n := 0) (by decide) (by decide) ?_
    refine lv_i2l (v := y5.toInt64) hx hb dX12_weightNow_39 rfl ?_
    refine lv_ladd hx hb dX12_weightNow_40 ?_
    refine lv_topl (fun x9 ex9 => ?_)
    replace h := lt_get h x9 ex9
    refine lv_lstore_n (lv' := [(1, .long x9), (0, .ref (ad 0)), (3, .int v3), (4, .int v4)]) hx hb dX12_weightNow_41 rfl hl (by decide) rfl (fun ls hl => ?_)
    obtain ⟨x10, ex10⟩ : ∃ z : Int32, z = (v4 + (1 : Int32)) := ⟨_, rfl⟩
    replace h := lt_get h x10 ex10
    refine lv_iinc (v := x10) (lv' := [(4, .int x10), (1, .long x9), (0, .ref (ad 0)), (3, .int v3)]) hx hb dX12_weightNow_42 hl (k := 3) rfl (by rw [ex10]; rfl) (by decide) rfl (fun ls hl => ?_)
    refine lv_goto (tgt := 15) hx hb dX12_weightNow_45 (by decide) ?_
    exact hr15 x9 v3 x10 sg6 lg7 h _ _ _ hw (lv_sub hl [2, 1, 3, 0] rfl)
def LX12_weightNow_15 (r4 : (Int64 × Int32 × Sg × Lg) → Option (Int64 × Sg × Lg)) : (Int64 × Int32 × Int32 × Sg × Lg) → Option (Int64 × Sg × Lg) := loop (fun rec z => fX12_weightNow_15 r4 rec z.1 z.2.1 z.2.2.1 z.2.2.2.1 z.2.2.2.2)
theorem TX12_weightNow_15 (C : Cx p s m args meth c cX12_weightNow 5 RX12 wsX12_weightNow (some .long) D vwCl (tysM T) A false []) {ro : Int64} {so : Sg} {lo : Lg} {r4 : (Int64 × Int32 × Sg × Lg) → Option (Int64 × Sg × Lg)} (hr4 : ∀ (v1 : Int64) (v3 : Int32) (sg : Sg) (lg : Lg), r4 (v1, v3, sg, lg) = some (ro, so, lo) → ∀ (H : Heap) (locs : List Loc) (ls : Array Slot), WS ZM D vwCl T ad sg lg A s.heap H locs → lv_has ls 5 [(0, .ref (ad 0)), (1, .long v1), (3, .int v3)] → W p l e rmX12_weightNow s m args below meth c H locs 0 0 (MQ below (QL ZM D vwCl T (tysM T) A (fun z => ad = z) ro so lo) args s 0 0 A) (F0 m 4 ls [])) : ∀ (v1 : Int64) (v3 : Int32) (v4 : Int32) (sg : Sg) (lg : Lg), LX12_weightNow_15 r4 (v1, v3, v4, sg, lg) = some (ro, so, lo) → ∀ (H : Heap) (locs : List Loc) (ls : Array Slot), WS ZM D vwCl T ad sg lg A s.heap H locs → lv_has ls 5 [(0, .ref (ad 0)), (1, .long v1), (3, .int v3), (4, .int v4)] → W p l e rmX12_weightNow s m args below meth c H locs 0 0 (MQ below (QL ZM D vwCl T (tysM T) A (fun z => ad = z) ro so lo) args s 0 0 A) (F0 m 15 ls []) := by
  have key : ∀ z : (Int64 × Int32 × Int32 × Sg × Lg), LX12_weightNow_15 r4 z = some (ro, so, lo) → ∀ (H : Heap) (locs : List Loc) (ls : Array Slot), WS ZM D vwCl T ad z.2.2.2.1 z.2.2.2.2 A s.heap H locs → lv_has ls 5 [(0, .ref (ad 0)), (1, .long z.1), (3, .int z.2.1), (4, .int z.2.2.1)] → W p l e rmX12_weightNow s m args below meth c H locs 0 0 (MQ below (QL ZM D vwCl T (tysM T) A (fun z => ad = z) ro so lo) args s 0 0 A) (F0 m 15 ls []) := by
    intro z h
    unfold LX12_weightNow_15 at h
    exact loop_ind (fun rec z => fX12_weightNow_15 r4 rec z.1 z.2.1 z.2.2.1 z.2.2.2.1 z.2.2.2.2) (y := (ro, so, lo)) (P := fun z => ∀ (H : Heap) (locs : List Loc) (ls : Array Slot), WS ZM D vwCl T ad z.2.2.2.1 z.2.2.2.2 A s.heap H locs → lv_has ls 5 [(0, .ref (ad 0)), (1, .long z.1), (3, .int z.2.1), (4, .int z.2.2.1)] → W p l e rmX12_weightNow s m args below meth c H locs 0 0 (MQ below (QL ZM D vwCl T (tysM T) A (fun z => ad = z) ro so lo) args s 0 0 A) (F0 m 15 ls [])) (fun rec hrec z h H locs ls hw hl => tX12_weightNow_15 C hr4 (fun v1 v3 v4 sg lg => hrec (v1, v3, v4, sg, lg)) z.1 z.2.1 z.2.2.1 z.2.2.2.1 z.2.2.2.2 H locs ls hw hl h) z h
  exact fun v1 v3 v4 sg lg => key (v1, v3, v4, sg, lg)
def fX12_weightNow_4 (r4 : (Int64 × Int32 × Sg × Lg) → Option (Int64 × Sg × Lg)) (v1 : Int64) (v3 : Int32) (sg : Sg) (lg : Lg) : Option (Int64 × Sg × Lg) :=
  (if (sg 0 4) ≤ v3 then some (v1, sg, lg) else LX12_weightNow_15 r4 (v1, v3, (0 : Int32), sg, lg))
set_option maxHeartbeats 4000000 in
set_option maxRecDepth 100000 in
theorem tX12_weightNow_4 (C : Cx p s m args meth c cX12_weightNow 5 RX12 wsX12_weightNow (some .long) D vwCl (tysM T) A false []) {ro : Int64} {so : Sg} {lo : Lg} {r4 : (Int64 × Int32 × Sg × Lg) → Option (Int64 × Sg × Lg)} (hr4 : ∀ (v1 : Int64) (v3 : Int32) (sg : Sg) (lg : Lg), r4 (v1, v3, sg, lg) = some (ro, so, lo) → ∀ (H : Heap) (locs : List Loc) (ls : Array Slot), WS ZM D vwCl T ad sg lg A s.heap H locs → lv_has ls 5 [(0, .ref (ad 0)), (1, .long v1), (3, .int v3)] → W p l e rmX12_weightNow s m args below meth c H locs 0 0 (MQ below (QL ZM D vwCl T (tysM T) A (fun z => ad = z) ro so lo) args s 0 0 A) (F0 m 4 ls [])) : ∀ (v1 : Int64) (v3 : Int32) (sg : Sg) (lg : Lg), ∀ (H : Heap) (locs : List Loc) (ls : Array Slot), WS ZM D vwCl T ad sg lg A s.heap H locs → lv_has ls 5 [(0, .ref (ad 0)), (1, .long v1), (3, .int v3)] → fX12_weightNow_4 r4 v1 v3 sg lg = some (ro, so, lo) → W p l e rmX12_weightNow s m args below meth c H locs 0 0 (MQ below (QL ZM D vwCl T (tysM T) A (fun z => ad = z) ro so lo) args s 0 0 A) (F0 m 4 ls []) := by
  obtain ⟨⟨hx, hb, hml, hown, hts⟩, hr, hlk, hK, hA, hsp⟩ := id C
  intro v1 v3 sg lg H locs ls hw hl h
  unfold fX12_weightNow_4 at h
  refine lv_iload_n hx hb dX12_weightNow_4 rfl (lv_at hl 2 rfl) ?_
  refine lv_aload_n hx hb dX12_weightNow_5 rfl (lv_at hl 0 rfl) ?_
  refine r_getI (ci := 12) (C := RX12) (U := TX12) (N := 18) hx hb hts kX12_weightNow_iX12 hown hK hw 0 (by decide) rfl rfl 4 (by decide) rfl (hts _ kX12_weightNow_f153) (fun _ h9 => h9) dX12_weightNow_6 ?_
  refine lv_icmp_ge (tgt := 54) hx hb dX12_weightNow_9 (by decide) (fun c1 => ?_) (fun c1 => ?_)
  · replace h := ite_t h c1
    refine lv_lload_n hx hb dX12_weightNow_54 rfl (lv_at hl 1 rfl) ?_
    cases h
    exact r_lret C hw rfl (by decide) (by decide) dX12_weightNow_55
  · replace h := ite_f h c1
    refine lv_iconst (v := (0 : Int32)) hx hb dX12_weightNow_12 (by decide) ?_
    refine lv_istore (lv' := [(4, .int (0 : Int32)), (0, .ref (ad 0)), (1, .long v1), (3, .int v3)]) hx hb dX12_weightNow_13 hl (by decide) rfl (fun ls hl => ?_)
    exact TX12_weightNow_15 C hr4 v1 v3 (0 : Int32) sg lg h _ _ _ hw (lv_sub hl [1, 2, 3, 0] rfl)
def LX12_weightNow_4  : (Int64 × Int32 × Sg × Lg) → Option (Int64 × Sg × Lg) := loop (fun rec z => fX12_weightNow_4 rec z.1 z.2.1 z.2.2.1 z.2.2.2)
theorem TX12_weightNow_4 (C : Cx p s m args meth c cX12_weightNow 5 RX12 wsX12_weightNow (some .long) D vwCl (tysM T) A false []) {ro : Int64} {so : Sg} {lo : Lg}   : ∀ (v1 : Int64) (v3 : Int32) (sg : Sg) (lg : Lg), LX12_weightNow_4 (v1, v3, sg, lg) = some (ro, so, lo) → ∀ (H : Heap) (locs : List Loc) (ls : Array Slot), WS ZM D vwCl T ad sg lg A s.heap H locs → lv_has ls 5 [(0, .ref (ad 0)), (1, .long v1), (3, .int v3)] → W p l e rmX12_weightNow s m args below meth c H locs 0 0 (MQ below (QL ZM D vwCl T (tysM T) A (fun z => ad = z) ro so lo) args s 0 0 A) (F0 m 4 ls []) := by
  have key : ∀ z : (Int64 × Int32 × Sg × Lg), LX12_weightNow_4  z = some (ro, so, lo) → ∀ (H : Heap) (locs : List Loc) (ls : Array Slot), WS ZM D vwCl T ad z.2.2.1 z.2.2.2 A s.heap H locs → lv_has ls 5 [(0, .ref (ad 0)), (1, .long z.1), (3, .int z.2.1)] → W p l e rmX12_weightNow s m args below meth c H locs 0 0 (MQ below (QL ZM D vwCl T (tysM T) A (fun z => ad = z) ro so lo) args s 0 0 A) (F0 m 4 ls []) := by
    intro z h
    unfold LX12_weightNow_4 at h
    exact loop_ind (fun rec z => fX12_weightNow_4 rec z.1 z.2.1 z.2.2.1 z.2.2.2) (y := (ro, so, lo)) (P := fun z => ∀ (H : Heap) (locs : List Loc) (ls : Array Slot), WS ZM D vwCl T ad z.2.2.1 z.2.2.2 A s.heap H locs → lv_has ls 5 [(0, .ref (ad 0)), (1, .long z.1), (3, .int z.2.1)] → W p l e rmX12_weightNow s m args below meth c H locs 0 0 (MQ below (QL ZM D vwCl T (tysM T) A (fun z => ad = z) ro so lo) args s 0 0 A) (F0 m 4 ls [])) (fun rec hrec z h H locs ls hw hl => tX12_weightNow_4 C  (fun v1 v3 sg lg => hrec (v1, v3, sg, lg)) z.1 z.2.1 z.2.2.1 z.2.2.2 H locs ls hw hl h) z h
  exact fun v1 v3 sg lg => key (v1, v3, sg, lg)
def fX12_weightNow  (sg : Sg) (lg : Lg) : Option (Int64 × Sg × Lg) :=
  LX12_weightNow_4 ((0 : Int64), (0 : Int32), sg, lg)
set_option maxHeartbeats 4000000 in
set_option maxRecDepth 100000 in
theorem tX12_weightNow_0 (C : Cx p s m args meth c cX12_weightNow 5 RX12 wsX12_weightNow (some .long) D vwCl (tysM T) A false []) {ro : Int64} {so : Sg} {lo : Lg}   : ∀ (sg : Sg) (lg : Lg), ∀ (H : Heap) (locs : List Loc) (ls : Array Slot), WS ZM D vwCl T ad sg lg A s.heap H locs → lv_has ls 5 [(0, .ref (ad 0))] → fX12_weightNow sg lg = some (ro, so, lo) → W p l e rmX12_weightNow s m args below meth c H locs 0 0 (MQ below (QL ZM D vwCl T (tysM T) A (fun z => ad = z) ro so lo) args s 0 0 A) (F0 m 0 ls []) := by
  obtain ⟨⟨hx, hb, hml, hown, hts⟩, hr, hlk, hK, hA, hsp⟩ := id C
  intro sg lg H locs ls hw hl h
  unfold fX12_weightNow at h
  refine lv_lconst (v := (0 : Int64)) hx hb dX12_weightNow_0 (by decide) ?_
  refine lv_lstore_n (lv' := [(1, .long (0 : Int64)), (0, .ref (ad 0))]) hx hb dX12_weightNow_1 rfl hl (by decide) rfl (fun ls hl => ?_)
  refine lv_iconst (v := (0 : Int32)) hx hb dX12_weightNow_2 (by decide) ?_
  refine lv_istore_n (lv' := [(3, .int (0 : Int32)), (1, .long (0 : Int64)), (0, .ref (ad 0))]) hx hb dX12_weightNow_3 rfl hl (by decide) rfl (fun ls hl => ?_)
  exact TX12_weightNow_4 C (0 : Int64) (0 : Int32) sg lg h _ _ _ hw (lv_sub hl [2, 1, 0] rfl)
theorem mX12_weightNow (l : Launch) (D : va_G) (T : Nat → ClassId) (ad : Nat → Nat)  (sz : Nat)   (sg : Sg) (lg : Lg) {ro : Int64} {so : Sg} {lo : Lg} (h : fX12_weightNow sg lg = some (ro, so, lo)) : Met l yX12_weightNow wsX12_weightNow rmX12_weightNow (PreZ ZM D vwCl T (tysM T) ad sg lg false [] [.ref (ad 0)] sz) (QL ZM D vwCl T (tysM T) (va_A (zwd ZM T ad sg lg) sz) (fun z => ad = z) ro so lo) 0 0 (va_A (zwd ZM T ad sg lg) sz) :=
  metZ [.ref (ad 0)] sz (by decide) rfl (Nat.le_of_ble_eq_true rfl) (fun p e s m below meth c ls C hw hl => tX12_weightNow_0 C sg lg _ _ _ hw hl h)
-- PeckYardModel.weight()J
def rmX12_weight : Room := { frames := 5, cells := 0, slots := 0, locals := 112 }
theorem kX12_weight_c61 : Cond.constantLong RX12 61 (-2000000002) ∈ wsX12_weight := by decide +kernel
def fX12_weight  (sg : Sg) (lg : Lg) : Option (Int64 × Sg × Lg) :=
  bnd3 (fX12_isWhole sg lg) (fun y1 sg2 lg3 => (if y1 = 0 then some ((-2000000002 : Int64), sg2, lg3) else bnd3 (fX12_weightNow sg2 lg3) (fun y6 sg7 lg8 => some (y6, sg7, lg8))))
set_option maxHeartbeats 4000000 in
set_option maxRecDepth 100000 in
theorem tX12_weight_0 (C : Cx p s m args meth c cX12_weight 1 RX12 wsX12_weight (some .long) D vwCl (tysM T) A false []) {ro : Int64} {so : Sg} {lo : Lg}   : ∀ (sg : Sg) (lg : Lg), ∀ (H : Heap) (locs : List Loc) (ls : Array Slot), WS ZM D vwCl T ad sg lg A s.heap H locs → lv_has ls 1 [(0, .ref (ad 0))] → fX12_weight sg lg = some (ro, so, lo) → W p l e rmX12_weight s m args below meth c H locs 0 0 (MQ below (QL ZM D vwCl T (tysM T) A (fun z => ad = z) ro so lo) args s 0 0 A) (F0 m 0 ls []) := by
  obtain ⟨⟨hx, hb, hml, hown, hts⟩, hr, hlk, hK, hA, hsp⟩ := id C
  intro sg lg H locs ls hw hl h
  unfold fX12_weight at h
  refine lv_aload_n hx hb dX12_weight_0 rfl (lv_at hl 0 rfl) ?_
  obtain ⟨y1, sg2, lg3, hq4, h2⟩ := bnd3_some h
  replace h := h2
  clear h2
  refine r_cVi (As := []) (rest := []) C hw 0 (by decide) (ci := 12) rfl rfl (mX12_isWhole l D T ad  H.size sg lg hq4) (cwV 0 hts gX12_weight_X12_isWhole rfl rfl rfl (by decide +kernel) ⟨Nat.le_of_ble_eq_true rfl, Nat.le_of_ble_eq_true rfl⟩) rfl hl.1 rfl (Nat.le_of_ble_eq_true rfl) dX12_weight_1 ⟨Nat.le_of_ble_eq_true rfl, Nat.le_of_ble_eq_true rfl⟩ (fun ad' H locs hp hw => ?_)
  subst hp
  refine W.widen (k := 0) (n := 0) (by decide) (by decide) ?_
  refine lv_if_eq (tgt := 14) hx hb dX12_weight_4 (by decide) (fun c5 => ?_) (fun c5 => ?_)
  · replace h := ite_t h c5
    refine lv_ldc2 hx hb hown (hts _ kX12_weight_c61) dX12_weight_14 ?_
    cases h
    exact r_lret C hw rfl (by decide) (by decide) dX12_weight_17
  · replace h := ite_f h c5
    refine lv_aload_n hx hb dX12_weight_7 rfl (lv_at hl 0 rfl) ?_
    obtain ⟨y6, sg7, lg8, hq9, h2⟩ := bnd3_some h
    replace h := h2
    clear h2
    refine r_cVl (As := []) (rest := []) C hw 0 (by decide) (ci := 12) rfl rfl (mX12_weightNow l D T ad  H.size sg2 lg3 hq9) (cwV 0 hts gX12_weight_X12_weightNow rfl rfl rfl (by decide +kernel) ⟨Nat.le_of_ble_eq_true rfl, Nat.le_of_ble_eq_true rfl⟩) rfl hl.1 rfl (Nat.le_of_ble_eq_true rfl) dX12_weight_8 ⟨Nat.le_of_ble_eq_true rfl, Nat.le_of_ble_eq_true rfl⟩ (fun ad' H locs hp hw => ?_)
    subst hp
    refine W.widen (k := 0) (n := 0) (by decide) (by decide) ?_
    refine lv_goto (tgt := 17) hx hb dX12_weight_11 (by decide) ?_
    cases h
    exact r_lret C hw rfl (by decide) (by decide) dX12_weight_17
theorem mX12_weight (l : Launch) (D : va_G) (T : Nat → ClassId) (ad : Nat → Nat)  (sz : Nat)   (sg : Sg) (lg : Lg) {ro : Int64} {so : Sg} {lo : Lg} (h : fX12_weight sg lg = some (ro, so, lo)) : Met l yX12_weight wsX12_weight rmX12_weight (PreZ ZM D vwCl T (tysM T) ad sg lg false [] [.ref (ad 0)] sz) (QL ZM D vwCl T (tysM T) (va_A (zwd ZM T ad sg lg) sz) (fun z => ad = z) ro so lo) 0 0 (va_A (zwd ZM T ad sg lg) sz) :=
  metZ [.ref (ad 0)] sz (by decide) rfl (Nat.le_of_ble_eq_true rfl) (fun p e s m below meth c ls C hw hl => tX12_weight_0 C sg lg _ _ _ hw hl h)
-- PeckYardModel.faulty()I
def rmX12_faulty : Room := { frames := 5, cells := 0, slots := 0, locals := 113 }
theorem kX12_faulty_f153 : Cond.fieldLink RX12 153 "PeckYardModel" "inHand" "I" ∈ wsX12_faulty := by decide +kernel
theorem kX12_faulty_iX12 : ∀ w ∈ u_ws RX12 TX12 18, w ∈ wsX12_faulty := by decide +kernel
theorem kX12_faulty_f16 : Cond.fieldLink RX12 16 "PeckYardModel" "hand" "[I" ∈ wsX12_faulty := by decide +kernel
def fX12_faulty_58 (r10 : (Int32 × Int32 × Int32 × Int32 × Sg × Lg) → Option (Int32 × Sg × Lg)) (v1 : Int32) (v2 : Int32) (v4 : Int32) (sg : Sg) (lg : Lg) : Option (Int32 × Sg × Lg) :=
  gin v4 12 (lt (v2 ||| ((1 : Int32) <<< ((sg 3 v4.toNatClampNeg) &&& 31))) (fun x2 => gin v4 12 (lt (sg 3 v4.toNatClampNeg) (fun x4 => lt (v4 + (1 : Int32)) (fun x5 => r10 (v1, x2, x4, x5, sg, lg))))))
set_option maxHeartbeats 4000000 in
set_option maxRecDepth 100000 in
theorem tX12_faulty_58 (C : Cx p s m args meth c cX12_faulty 5 RX12 wsX12_faulty (some .int) D vwCl (tysM T) A false []) {ro : Int32} {so : Sg} {lo : Lg} {r10 : (Int32 × Int32 × Int32 × Int32 × Sg × Lg) → Option (Int32 × Sg × Lg)} (hr10 : ∀ (v1 : Int32) (v2 : Int32) (v3 : Int32) (v4 : Int32) (sg : Sg) (lg : Lg), r10 (v1, v2, v3, v4, sg, lg) = some (ro, so, lo) → ∀ (H : Heap) (locs : List Loc) (ls : Array Slot), WS ZM D vwCl T ad sg lg A s.heap H locs → lv_has ls 5 [(0, .ref (ad 0)), (1, .int v1), (2, .int v2), (3, .int v3), (4, .int v4)] → W p l e rmX12_faulty s m args below meth c H locs 0 0 (MQ below (QI ZM D vwCl T (tysM T) A (fun z => ad = z) ro so lo) args s 0 0 A) (F0 m 10 ls [])) : ∀ (v1 : Int32) (v2 : Int32) (v4 : Int32) (sg : Sg) (lg : Lg), ∀ (H : Heap) (locs : List Loc) (ls : Array Slot), WS ZM D vwCl T ad sg lg A s.heap H locs → lv_has ls 5 [(0, .ref (ad 0)), (1, .int v1), (2, .int v2), (4, .int v4)] → fX12_faulty_58 r10 v1 v2 v4 sg lg = some (ro, so, lo) → W p l e rmX12_faulty s m args below meth c H locs 0 0 (MQ below (QI ZM D vwCl T (tysM T) A (fun z => ad = z) ro so lo) args s 0 0 A) (F0 m 58 ls []) := by
  obtain ⟨⟨hx, hb, hml, hown, hts⟩, hr, hlk, hK, hA, hsp⟩ := id C
  intro v1 v2 v4 sg lg H locs ls hw hl h
  unfold fX12_faulty_58 at h
  refine lv_iload_n hx hb dX12_faulty_58 rfl (lv_at hl 2 rfl) ?_
  refine lv_iconst (v := (1 : Int32)) hx hb dX12_faulty_59 (by decide) ?_
  refine lv_aload_n hx hb dX12_faulty_60 rfl (lv_at hl 0 rfl) ?_
  refine r_getR (ci := 12) (C := RX12) (U := TX12) (N := 18) hx hb hts kX12_faulty_iX12 hown hK hw 0 (by decide) rfl rfl 3 (by decide) 3 rfl (hts _ kX12_faulty_f16) (fun _ h9 => h9) dX12_faulty_61 ?_
  refine lv_iload hx hb dX12_faulty_64 (lv_at hl 3 rfl) ?_
  have hi1 := (gin_some h).1
  replace h := (gin_some h).2
  refine r_iald hx hb hK hw 3 0 12 (by decide) rfl rfl rfl hi1 dX12_faulty_66 ?_
  refine lv_ishl hx hb dX12_faulty_67 ?_
  refine lv_ior hx hb dX12_faulty_68 ?_
  refine lv_topi (fun x2 ex2 => ?_)
  replace h := lt_get h x2 ex2
  refine lv_istore_n (lv' := [(2, .int x2), (0, .ref (ad 0)), (1, .int v1), (4, .int v4)]) hx hb dX12_faulty_69 rfl hl (by decide) rfl (fun ls hl => ?_)
  refine lv_aload_n hx hb dX12_faulty_70 rfl (lv_at hl 1 rfl) ?_
  refine r_getR (ci := 12) (C := RX12) (U := TX12) (N := 18) hx hb hts kX12_faulty_iX12 hown hK hw 0 (by decide) rfl rfl 3 (by decide) 3 rfl (hts _ kX12_faulty_f16) (fun _ h9 => h9) dX12_faulty_71 ?_
  refine lv_iload hx hb dX12_faulty_74 (lv_at hl 3 rfl) ?_
  have hi3 := (gin_some h).1
  replace h := (gin_some h).2
  refine r_iald hx hb hK hw 3 0 12 (by decide) rfl rfl rfl hi3 dX12_faulty_76 ?_
  refine lv_topi (fun x4 ex4 => ?_)
  replace h := lt_get h x4 ex4
  refine lv_istore_n (lv' := [(3, .int x4), (2, .int x2), (0, .ref (ad 0)), (1, .int v1), (4, .int v4)]) hx hb dX12_faulty_77 rfl hl (by decide) rfl (fun ls hl => ?_)
  obtain ⟨x5, ex5⟩ : ∃ z : Int32, z = (v4 + (1 : Int32)) := ⟨_, rfl⟩
  replace h := lt_get h x5 ex5
  refine lv_iinc (v := x5) (lv' := [(4, .int x5), (3, .int x4), (2, .int x2), (0, .ref (ad 0)), (1, .int v1)]) hx hb dX12_faulty_78 hl (k := 4) rfl (by rw [ex5]; rfl) (by decide) rfl (fun ls hl => ?_)
  refine lv_goto (tgt := 10) hx hb dX12_faulty_81 (by decide) ?_
  exact hr10 v1 x2 x4 x5 sg lg h _ _ _ hw (lv_sub hl [3, 4, 2, 1, 0] rfl)
def fX12_faulty_50 (r10 : (Int32 × Int32 × Int32 × Int32 × Sg × Lg) → Option (Int32 × Sg × Lg)) (v2 : Int32) (v4 : Int32) (sg : Sg) (lg : Lg) : Option (Int32 × Sg × Lg) :=
  gin v4 12 (lt (sg 3 v4.toNatClampNeg) (fun x2 => fX12_faulty_58 r10 x2 v2 v4 sg lg))
set_option maxHeartbeats 4000000 in
set_option maxRecDepth 100000 in
theorem tX12_faulty_50 (C : Cx p s m args meth c cX12_faulty 5 RX12 wsX12_faulty (some .int) D vwCl (tysM T) A false []) {ro : Int32} {so : Sg} {lo : Lg} {r10 : (Int32 × Int32 × Int32 × Int32 × Sg × Lg) → Option (Int32 × Sg × Lg)} (hr10 : ∀ (v1 : Int32) (v2 : Int32) (v3 : Int32) (v4 : Int32) (sg : Sg) (lg : Lg), r10 (v1, v2, v3, v4, sg, lg) = some (ro, so, lo) → ∀ (H : Heap) (locs : List Loc) (ls : Array Slot), WS ZM D vwCl T ad sg lg A s.heap H locs → lv_has ls 5 [(0, .ref (ad 0)), (1, .int v1), (2, .int v2), (3, .int v3), (4, .int v4)] → W p l e rmX12_faulty s m args below meth c H locs 0 0 (MQ below (QI ZM D vwCl T (tysM T) A (fun z => ad = z) ro so lo) args s 0 0 A) (F0 m 10 ls [])) : ∀ (v2 : Int32) (v4 : Int32) (sg : Sg) (lg : Lg), ∀ (H : Heap) (locs : List Loc) (ls : Array Slot), WS ZM D vwCl T ad sg lg A s.heap H locs → lv_has ls 5 [(0, .ref (ad 0)), (2, .int v2), (4, .int v4)] → fX12_faulty_50 r10 v2 v4 sg lg = some (ro, so, lo) → W p l e rmX12_faulty s m args below meth c H locs 0 0 (MQ below (QI ZM D vwCl T (tysM T) A (fun z => ad = z) ro so lo) args s 0 0 A) (F0 m 50 ls []) := by
  obtain ⟨⟨hx, hb, hml, hown, hts⟩, hr, hlk, hK, hA, hsp⟩ := id C
  intro v2 v4 sg lg H locs ls hw hl h
  unfold fX12_faulty_50 at h
  refine lv_aload_n hx hb dX12_faulty_50 rfl (lv_at hl 0 rfl) ?_
  refine r_getR (ci := 12) (C := RX12) (U := TX12) (N := 18) hx hb hts kX12_faulty_iX12 hown hK hw 0 (by decide) rfl rfl 3 (by decide) 3 rfl (hts _ kX12_faulty_f16) (fun _ h9 => h9) dX12_faulty_51 ?_
  refine lv_iload hx hb dX12_faulty_54 (lv_at hl 2 rfl) ?_
  have hi1 := (gin_some h).1
  replace h := (gin_some h).2
  refine r_iald hx hb hK hw 3 0 12 (by decide) rfl rfl rfl hi1 dX12_faulty_56 ?_
  refine lv_topi (fun x2 ex2 => ?_)
  replace h := lt_get h x2 ex2
  refine lv_istore_n (lv' := [(1, .int x2), (0, .ref (ad 0)), (2, .int v2), (4, .int v4)]) hx hb dX12_faulty_57 rfl hl (by decide) rfl (fun ls hl => ?_)
  exact tX12_faulty_58 C hr10 x2 v2 v4 sg lg _ _ _ hw (lv_sub hl [1, 0, 2, 3] rfl) h
def fX12_faulty_10 (r10 : (Int32 × Int32 × Int32 × Int32 × Sg × Lg) → Option (Int32 × Sg × Lg)) (v1 : Int32) (v2 : Int32) (v3 : Int32) (v4 : Int32) (sg : Sg) (lg : Lg) : Option (Int32 × Sg × Lg) :=
  (if (sg 0 4) ≤ v4 then some (v1, sg, lg) else gin v4 12 (bnd3 (fX12_may (sg 3 v4.toNatClampNeg) v2 v3 sg lg) (fun y3 sg4 lg5 => (if y3 = 0 then (if v1 < 0 then fX12_faulty_50 r10 v2 v4 sg4 lg5 else gin v4 12 ((if v1 ≤ (sg4 3 v4.toNatClampNeg) then fX12_faulty_58 r10 v1 v2 v4 sg4 lg5 else fX12_faulty_50 r10 v2 v4 sg4 lg5))) else fX12_faulty_58 r10 v1 v2 v4 sg4 lg5))))
set_option maxHeartbeats 4000000 in
set_option maxRecDepth 100000 in
theorem tX12_faulty_10 (C : Cx p s m args meth c cX12_faulty 5 RX12 wsX12_faulty (some .int) D vwCl (tysM T) A false []) {ro : Int32} {so : Sg} {lo : Lg} {r10 : (Int32 × Int32 × Int32 × Int32 × Sg × Lg) → Option (Int32 × Sg × Lg)} (hr10 : ∀ (v1 : Int32) (v2 : Int32) (v3 : Int32) (v4 : Int32) (sg : Sg) (lg : Lg), r10 (v1, v2, v3, v4, sg, lg) = some (ro, so, lo) → ∀ (H : Heap) (locs : List Loc) (ls : Array Slot), WS ZM D vwCl T ad sg lg A s.heap H locs → lv_has ls 5 [(0, .ref (ad 0)), (1, .int v1), (2, .int v2), (3, .int v3), (4, .int v4)] → W p l e rmX12_faulty s m args below meth c H locs 0 0 (MQ below (QI ZM D vwCl T (tysM T) A (fun z => ad = z) ro so lo) args s 0 0 A) (F0 m 10 ls [])) : ∀ (v1 : Int32) (v2 : Int32) (v3 : Int32) (v4 : Int32) (sg : Sg) (lg : Lg), ∀ (H : Heap) (locs : List Loc) (ls : Array Slot), WS ZM D vwCl T ad sg lg A s.heap H locs → lv_has ls 5 [(0, .ref (ad 0)), (1, .int v1), (2, .int v2), (3, .int v3), (4, .int v4)] → fX12_faulty_10 r10 v1 v2 v3 v4 sg lg = some (ro, so, lo) → W p l e rmX12_faulty s m args below meth c H locs 0 0 (MQ below (QI ZM D vwCl T (tysM T) A (fun z => ad = z) ro so lo) args s 0 0 A) (F0 m 10 ls []) := by
  obtain ⟨⟨hx, hb, hml, hown, hts⟩, hr, hlk, hK, hA, hsp⟩ := id C
  intro v1 v2 v3 v4 sg lg H locs ls hw hl h
  unfold fX12_faulty_10 at h
  refine lv_iload hx hb dX12_faulty_10 (lv_at hl 4 rfl) ?_
  refine lv_aload_n hx hb dX12_faulty_12 rfl (lv_at hl 0 rfl) ?_
  refine r_getI (ci := 12) (C := RX12) (U := TX12) (N := 18) hx hb hts kX12_faulty_iX12 hown hK hw 0 (by decide) rfl rfl 4 (by decide) rfl (hts _ kX12_faulty_f153) (fun _ h9 => h9) dX12_faulty_13 ?_
  refine lv_icmp_ge (tgt := 84) hx hb dX12_faulty_16 (by decide) (fun c1 => ?_) (fun c1 => ?_)
  · replace h := ite_t h c1
    refine lv_iload_n hx hb dX12_faulty_84 rfl (lv_at hl 1 rfl) ?_
    cases h
    exact r_iret C hw rfl (by decide) (by decide) dX12_faulty_85
  · replace h := ite_f h c1
    refine lv_aload_n hx hb dX12_faulty_19 rfl (lv_at hl 0 rfl) ?_
    refine lv_aload_n hx hb dX12_faulty_20 rfl (lv_at hl 0 rfl) ?_
    refine r_getR (ci := 12) (C := RX12) (U := TX12) (N := 18) hx hb hts kX12_faulty_iX12 hown hK hw 0 (by decide) rfl rfl 3 (by decide) 3 rfl (hts _ kX12_faulty_f16) (fun _ h9 => h9) dX12_faulty_21 ?_
    refine lv_iload hx hb dX12_faulty_24 (lv_at hl 4 rfl) ?_
    have hi2 := (gin_some h).1
    replace h := (gin_some h).2
    refine r_iald hx hb hK hw 3 0 12 (by decide) rfl rfl rfl hi2 dX12_faulty_26 ?_
    refine lv_iload_n hx hb dX12_faulty_27 rfl (lv_at hl 2 rfl) ?_
    refine lv_iload_n hx hb dX12_faulty_28 rfl (lv_at hl 3 rfl) ?_
    obtain ⟨y3, sg4, lg5, hq6, h2⟩ := bnd3_some h
    replace h := h2
    clear h2
    refine r_cVi (As := [.int (sg 3 v4.toNatClampNeg), .int v2, .int v3]) (rest := []) C hw 0 (by decide) (ci := 12) rfl rfl (mX12_may l D T ad  H.size (sg 3 v4.toNatClampNeg) v2 v3 sg lg hq6) (cwV 3 hts gX12_faulty_X12_may rfl rfl rfl (by decide +kernel) ⟨Nat.le_of_ble_eq_true rfl, Nat.le_of_ble_eq_true rfl⟩) rfl hl.1 rfl (Nat.le_of_ble_eq_true rfl) dX12_faulty_29 ⟨Nat.le_of_ble_eq_true rfl, Nat.le_of_ble_eq_true rfl⟩ (fun ad' H locs hp hw => ?_)
    subst hp
    refine W.widen (k := 0) (n := 0) (by decide) (by decide) ?_
    refine lv_if_ne (tgt := 58) hx hb dX12_faulty_32 (by decide) (fun c7 => ?_) (fun c7 => ?_)
    · replace h := ite_f h c7
      exact tX12_faulty_58 C hr10 v1 v2 v4 sg4 lg5 _ _ _ hw (lv_sub hl [0, 1, 2, 4] rfl) h
    · replace h := ite_t h c7
      refine lv_iload_n hx hb dX12_faulty_35 rfl (lv_at hl 1 rfl) ?_
      refine lv_if_lt (tgt := 50) hx hb dX12_faulty_36 (by decide) (fun c8 => ?_) (fun c8 => ?_)
      · replace h := ite_t h c8
        exact tX12_faulty_50 C hr10 v2 v4 sg4 lg5 _ _ _ hw (lv_sub hl [0, 2, 4] rfl) h
      · replace h := ite_f h c8
        refine lv_aload_n hx hb dX12_faulty_39 rfl (lv_at hl 0 rfl) ?_
        refine r_getR (ci := 12) (C := RX12) (U := TX12) (N := 18) hx hb hts kX12_faulty_iX12 hown hK hw 0 (by decide) rfl rfl 3 (by decide) 3 rfl (hts _ kX12_faulty_f16) (fun _ h9 => h9) dX12_faulty_40 ?_
        refine lv_iload hx hb dX12_faulty_43 (lv_at hl 4 rfl) ?_
        have hi9 := (gin_some h).1
        replace h := (gin_some h).2
        refine r_iald hx hb hK hw 3 0 12 (by decide) rfl rfl rfl hi9 dX12_faulty_45 ?_
        refine lv_iload_n hx hb dX12_faulty_46 rfl (lv_at hl 1 rfl) ?_
        refine lv_icmp_ge (tgt := 58) hx hb dX12_faulty_47 (by decide) (fun c10 => ?_) (fun c10 => ?_)
        · replace h := ite_t h c10
          exact tX12_faulty_58 C hr10 v1 v2 v4 sg4 lg5 _ _ _ hw (lv_sub hl [0, 1, 2, 4] rfl) h
        · replace h := ite_f h c10
          exact tX12_faulty_50 C hr10 v2 v4 sg4 lg5 _ _ _ hw (lv_sub hl [0, 2, 4] rfl) h
def LX12_faulty_10  : (Int32 × Int32 × Int32 × Int32 × Sg × Lg) → Option (Int32 × Sg × Lg) := loop (fun rec z => fX12_faulty_10 rec z.1 z.2.1 z.2.2.1 z.2.2.2.1 z.2.2.2.2.1 z.2.2.2.2.2)
theorem TX12_faulty_10 (C : Cx p s m args meth c cX12_faulty 5 RX12 wsX12_faulty (some .int) D vwCl (tysM T) A false []) {ro : Int32} {so : Sg} {lo : Lg}   : ∀ (v1 : Int32) (v2 : Int32) (v3 : Int32) (v4 : Int32) (sg : Sg) (lg : Lg), LX12_faulty_10 (v1, v2, v3, v4, sg, lg) = some (ro, so, lo) → ∀ (H : Heap) (locs : List Loc) (ls : Array Slot), WS ZM D vwCl T ad sg lg A s.heap H locs → lv_has ls 5 [(0, .ref (ad 0)), (1, .int v1), (2, .int v2), (3, .int v3), (4, .int v4)] → W p l e rmX12_faulty s m args below meth c H locs 0 0 (MQ below (QI ZM D vwCl T (tysM T) A (fun z => ad = z) ro so lo) args s 0 0 A) (F0 m 10 ls []) := by
  have key : ∀ z : (Int32 × Int32 × Int32 × Int32 × Sg × Lg), LX12_faulty_10  z = some (ro, so, lo) → ∀ (H : Heap) (locs : List Loc) (ls : Array Slot), WS ZM D vwCl T ad z.2.2.2.2.1 z.2.2.2.2.2 A s.heap H locs → lv_has ls 5 [(0, .ref (ad 0)), (1, .int z.1), (2, .int z.2.1), (3, .int z.2.2.1), (4, .int z.2.2.2.1)] → W p l e rmX12_faulty s m args below meth c H locs 0 0 (MQ below (QI ZM D vwCl T (tysM T) A (fun z => ad = z) ro so lo) args s 0 0 A) (F0 m 10 ls []) := by
    intro z h
    unfold LX12_faulty_10 at h
    exact loop_ind (fun rec z => fX12_faulty_10 rec z.1 z.2.1 z.2.2.1 z.2.2.2.1 z.2.2.2.2.1 z.2.2.2.2.2) (y := (ro, so, lo)) (P := fun z => ∀ (H : Heap) (locs : List Loc) (ls : Array Slot), WS ZM D vwCl T ad z.2.2.2.2.1 z.2.2.2.2.2 A s.heap H locs → lv_has ls 5 [(0, .ref (ad 0)), (1, .int z.1), (2, .int z.2.1), (3, .int z.2.2.1), (4, .int z.2.2.2.1)] → W p l e rmX12_faulty s m args below meth c H locs 0 0 (MQ below (QI ZM D vwCl T (tysM T) A (fun z => ad = z) ro so lo) args s 0 0 A) (F0 m 10 ls [])) (fun rec hrec z h H locs ls hw hl => tX12_faulty_10 C  (fun v1 v2 v3 v4 sg lg => hrec (v1, v2, v3, v4, sg, lg)) z.1 z.2.1 z.2.2.1 z.2.2.2.1 z.2.2.2.2.1 z.2.2.2.2.2 H locs ls hw hl h) z h
  exact fun v1 v2 v3 v4 sg lg => key (v1, v2, v3, v4, sg, lg)
def fX12_faulty  (sg : Sg) (lg : Lg) : Option (Int32 × Sg × Lg) :=
  LX12_faulty_10 ((-1 : Int32), (0 : Int32), (12 : Int32), (0 : Int32), sg, lg)
set_option maxHeartbeats 4000000 in
set_option maxRecDepth 100000 in
theorem tX12_faulty_0 (C : Cx p s m args meth c cX12_faulty 5 RX12 wsX12_faulty (some .int) D vwCl (tysM T) A false []) {ro : Int32} {so : Sg} {lo : Lg}   : ∀ (sg : Sg) (lg : Lg), ∀ (H : Heap) (locs : List Loc) (ls : Array Slot), WS ZM D vwCl T ad sg lg A s.heap H locs → lv_has ls 5 [(0, .ref (ad 0))] → fX12_faulty sg lg = some (ro, so, lo) → W p l e rmX12_faulty s m args below meth c H locs 0 0 (MQ below (QI ZM D vwCl T (tysM T) A (fun z => ad = z) ro so lo) args s 0 0 A) (F0 m 0 ls []) := by
  obtain ⟨⟨hx, hb, hml, hown, hts⟩, hr, hlk, hK, hA, hsp⟩ := id C
  intro sg lg H locs ls hw hl h
  unfold fX12_faulty at h
  refine lv_iconst (v := (-1 : Int32)) hx hb dX12_faulty_0 (by decide) ?_
  refine lv_istore_n (lv' := [(1, .int (-1 : Int32)), (0, .ref (ad 0))]) hx hb dX12_faulty_1 rfl hl (by decide) rfl (fun ls hl => ?_)
  refine lv_iconst (v := (0 : Int32)) hx hb dX12_faulty_2 (by decide) ?_
  refine lv_istore_n (lv' := [(2, .int (0 : Int32)), (1, .int (-1 : Int32)), (0, .ref (ad 0))]) hx hb dX12_faulty_3 rfl hl (by decide) rfl (fun ls hl => ?_)
  refine lv_bipush (v := (12 : Int32)) hx hb dX12_faulty_4 (by decide) ?_
  refine lv_istore_n (lv' := [(3, .int (12 : Int32)), (2, .int (0 : Int32)), (1, .int (-1 : Int32)), (0, .ref (ad 0))]) hx hb dX12_faulty_6 rfl hl (by decide) rfl (fun ls hl => ?_)
  refine lv_iconst (v := (0 : Int32)) hx hb dX12_faulty_7 (by decide) ?_
  refine lv_istore (lv' := [(4, .int (0 : Int32)), (3, .int (12 : Int32)), (2, .int (0 : Int32)), (1, .int (-1 : Int32)), (0, .ref (ad 0))]) hx hb dX12_faulty_8 hl (by decide) rfl (fun ls hl => ?_)
  exact TX12_faulty_10 C (-1 : Int32) (0 : Int32) (12 : Int32) (0 : Int32) sg lg h _ _ _ hw (lv_sub hl [4, 3, 2, 1, 0] rfl)
theorem mX12_faulty (l : Launch) (D : va_G) (T : Nat → ClassId) (ad : Nat → Nat)  (sz : Nat)   (sg : Sg) (lg : Lg) {ro : Int32} {so : Sg} {lo : Lg} (h : fX12_faulty sg lg = some (ro, so, lo)) : Met l yX12_faulty wsX12_faulty rmX12_faulty (PreZ ZM D vwCl T (tysM T) ad sg lg false [] [.ref (ad 0)] sz) (QI ZM D vwCl T (tysM T) (va_A (zwd ZM T ad sg lg) sz) (fun z => ad = z) ro so lo) 0 0 (va_A (zwd ZM T ad sg lg) sz) :=
  metZ [.ref (ad 0)] sz (by decide) rfl (Nat.le_of_ble_eq_true rfl) (fun p e s m below meth c ls C hw hl => tX12_faulty_0 C sg lg _ _ _ hw hl h)
end ZM
