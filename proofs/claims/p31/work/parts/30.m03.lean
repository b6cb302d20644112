section ZM
variable {p : Program} {l : Launch} {e : Env} {s : State} {m : MethodId} {args : Array Value} {below : List Frame} {meth : Method} {c : Code} {D : va_G} {T : Nat → ClassId} {A : Nat → Prop} {ad a : Nat → Nat}
-- PeckYardModel.isOf(II)J
def rmX12_isOf : Room := { frames := 2, cells := 0, slots := 0, locals := 46 }
theorem kX12_isOf_c72 : Cond.constantLong RX12 72 (-2000000001) ∈ wsX12_isOf := by decide +kernel
theorem kX12_isOf_c66 : Cond.constantLong RX12 66 (4) ∈ wsX12_isOf := by decide +kernel
def fX12_isOf  (v1 : Int32) (v2 : Int32) (sg : Sg) (lg : Lg) : Option (Int64 × Sg × Lg) :=
  bnd3 (fX12_isHen v1 sg lg) (fun y1 sg2 lg3 => (if y1 = 0 then some ((-2000000001 : Int64), sg2, lg3) else bnd3 (fX12_isIn v2.toInt64 (0 : Int64) (4 : Int64) sg2 lg3) (fun y6 sg7 lg8 => (if y6 = 0 then some ((-2000000001 : Int64), sg7, lg8) else (if v2 = 0 then some ((1 : Int64), sg7, lg8) else bnd3 (fX12_kind v1 sg7 lg8) (fun y12 sg13 lg14 => (if y12 = v2 then some ((1 : Int64), sg13, lg14) else (if v2 = (1 : Int32) then bnd3 (fX12_kind v1 sg13 lg14) (fun y18 sg19 lg20 => (if y18 = (3 : Int32) then some ((1 : Int64), sg19, lg20) else some ((0 : Int64), sg19, lg20))) else some ((0 : Int64), sg13, lg14)))))))))
set_option maxHeartbeats 4000000 in
set_option maxRecDepth 100000 in
theorem tX12_isOf_0 (C : Cx p s m args meth c cX12_isOf 3 RX12 wsX12_isOf (some .long) D vwCl (tysM T) A false []) {ro : Int64} {so : Sg} {lo : Lg}   : ∀ (v1 : Int32) (v2 : Int32) (sg : Sg) (lg : Lg), ∀ (H : Heap) (locs : List Loc) (ls : Array Slot), WS ZM D vwCl T ad sg lg A s.heap H locs → lv_has ls 3 [(0, .ref (ad 0)), (1, .int v1), (2, .int v2)] → fX12_isOf v1 v2 sg lg = some (ro, so, lo) → W p l e rmX12_isOf s m args below meth c H locs 0 0 (MQ below (QL ZM D vwCl T (tysM T) A (fun z => ad = z) ro so lo) args s 0 0 A) (F0 m 0 ls []) := by
  obtain ⟨⟨hx, hb, hml, hown, hts⟩, hr, hlk, hK, hA, hsp⟩ := id C
  intro v1 v2 sg lg H locs ls hw hl h
  unfold fX12_isOf at h
  refine lv_aload_n hx hb dX12_isOf_0 rfl (lv_at hl 0 rfl) ?_
  refine lv_iload_n hx hb dX12_isOf_1 rfl (lv_at hl 1 rfl) ?_
  obtain ⟨y1, sg2, lg3, hq4, h2⟩ := bnd3_some h
  replace h := h2
  clear h2
  refine r_cVi (As := [.int v1]) (rest := []) C hw 0 (by decide) (ci := 12) rfl rfl (mX12_isHen l D T ad  H.size v1 sg lg hq4) (cwV 1 hts gX12_isOf_X12_isHen rfl rfl rfl (by decide +kernel) ⟨Nat.le_of_ble_eq_true rfl, Nat.le_of_ble_eq_true rfl⟩) rfl hl.1 rfl (Nat.le_of_ble_eq_true rfl) dX12_isOf_2 ⟨Nat.le_of_ble_eq_true rfl, Nat.le_of_ble_eq_true rfl⟩ (fun ad' H locs hp hw => ?_)
  subst hp
  refine W.widen (k := 0) (n := 0) (by decide) (by decide) ?_
  refine lv_if_eq (tgt := 20) hx hb dX12_isOf_5 (by decide) (fun c5 => ?_) (fun c5 => ?_)
  · replace h := ite_t h c5
    refine lv_ldc2 hx hb hown (hts _ kX12_isOf_c72) dX12_isOf_20 ?_
    cases h
    exact r_lret C hw rfl (by decide) (by decide) dX12_isOf_23
  · replace h := ite_f h c5
    refine lv_iload_n hx hb dX12_isOf_8 rfl (lv_at hl 2 rfl) ?_
    refine lv_i2l (v := v2.toInt64) hx hb dX12_isOf_9 rfl ?_
    refine lv_lconst (v := (0 : Int64)) hx hb dX12_isOf_10 (by decide) ?_
    refine lv_ldc2 hx hb hown (hts _ kX12_isOf_c66) dX12_isOf_11 ?_
    obtain ⟨y6, sg7, lg8, hq9, h2⟩ := bnd3_some h
    replace h := h2
    clear h2
    refine r_cSi (As := [.long v2.toInt64, .long (0 : Int64), .long (4 : Int64)]) (rest := []) C hw (mX12_isIn l D T ad  H.size v2.toInt64 (0 : Int64) (4 : Int64) sg2 lg3 hq9) (va_cwS 3 hts gX12_isOf_X12_isIn rfl rfl rfl (by decide +kernel) ⟨Nat.le_of_ble_eq_true rfl, Nat.le_of_ble_eq_true rfl⟩) rfl hl.1 rfl (Nat.le_of_ble_eq_true rfl) dX12_isOf_14 ⟨Nat.le_of_ble_eq_true rfl, Nat.le_of_ble_eq_true rfl⟩ (fun ad' H locs hp hw => ?_)
    subst hp
    refine W.widen (k := 0) (n := 0) (by decide) (by decide) ?_
    refine lv_if_ne (tgt := 24) hx hb dX12_isOf_17 (by decide) (fun c10 => ?_) (fun c10 => ?_)
    · replace h := ite_f h c10
      refine lv_iload_n hx hb dX12_isOf_24 rfl (lv_at hl 2 rfl) ?_
      refine lv_if_eq (tgt := 51) hx hb dX12_isOf_25 (by decide) (fun c11 => ?_) (fun c11 => ?_)
      · replace h := ite_t h c11
        refine lv_lconst (v := (1 : Int64)) hx hb dX12_isOf_51 (by decide) ?_
        refine lv_goto (tgt := 56) hx hb dX12_isOf_52 (by decide) ?_
        cases h
        exact r_lret C hw rfl (by decide) (by decide) dX12_isOf_56
      · replace h := ite_f h c11
        refine lv_aload_n hx hb dX12_isOf_28 rfl (lv_at hl 0 rfl) ?_
        refine lv_iload_n hx hb dX12_isOf_29 rfl (lv_at hl 1 rfl) ?_
        obtain ⟨y12, sg13, lg14, hq15, h2⟩ := bnd3_some h
        replace h := h2
        clear h2
        refine r_cVi (As := [.int v1]) (rest := []) C hw 0 (by decide) (ci := 12) rfl rfl (mX12_kind l D T ad  H.size v1 sg7 lg8 hq15) (cwV 1 hts gX12_isOf_X12_kind rfl rfl rfl (by decide +kernel) ⟨Nat.le_of_ble_eq_true rfl, Nat.le_of_ble_eq_true rfl⟩) rfl hl.1 rfl (Nat.le_of_ble_eq_true rfl) dX12_isOf_30 ⟨Nat.le_of_ble_eq_true rfl, Nat.le_of_ble_eq_true rfl⟩ (fun ad' H locs hp hw => ?_)
        subst hp
        refine W.widen (k := 0) (n := 0) (by decide) (by decide) ?_
        refine lv_iload_n hx hb dX12_isOf_33 rfl (lv_at hl 2 rfl) ?_
        refine lv_icmp_eq (tgt := 51) hx hb dX12_isOf_34 (by decide) (fun c16 => ?_) (fun c16 => ?_)
        · replace h := ite_t h c16
          refine lv_lconst (v := (1 : Int64)) hx hb dX12_isOf_51 (by decide) ?_
          refine lv_goto (tgt := 56) hx hb dX12_isOf_52 (by decide) ?_
          cases h
          exact r_lret C hw rfl (by decide) (by decide) dX12_isOf_56
        · replace h := ite_f h c16
          refine lv_iload_n hx hb dX12_isOf_37 rfl (lv_at hl 2 rfl) ?_
          refine lv_iconst (v := (1 : Int32)) hx hb dX12_isOf_38 (by decide) ?_
          refine lv_icmp_ne (tgt := 55) hx hb dX12_isOf_39 (by decide) (fun c17 => ?_) (fun c17 => ?_)
          · replace h := ite_f h c17
            refine lv_lconst (v := (0 : Int64)) hx hb dX12_isOf_55 (by decide) ?_
            cases h
            exact r_lret C hw rfl (by decide) (by decide) dX12_isOf_56
          · replace h := ite_t h c17
            refine lv_aload_n hx hb dX12_isOf_42 rfl (lv_at hl 0 rfl) ?_
            refine lv_iload_n hx hb dX12_isOf_43 rfl (lv_at hl 1 rfl) ?_
            obtain ⟨y18, sg19, lg20, hq21, h2⟩ := bnd3_some h
            replace h := h2
            clear h2
            refine r_cVi (As := [.int v1]) (rest := []) C hw 0 (by decide) (ci := 12) rfl rfl (mX12_kind l D T ad  H.size v1 sg13 lg14 hq21) (cwV 1 hts gX12_isOf_X12_kind rfl rfl rfl (by decide +kernel) ⟨Nat.le_of_ble_eq_true rfl, Nat.le_of_ble_eq_true rfl⟩) rfl hl.1 rfl (Nat.le_of_ble_eq_true rfl) dX12_isOf_44 ⟨Nat.le_of_ble_eq_true rfl, Nat.le_of_ble_eq_true rfl⟩ (fun ad' H locs hp hw => ?_)
            subst hp
            refine W.widen (k := 0) (n := 0) (by decide) (by decide) ?_
            refine lv_iconst (v := (3 : Int32)) hx hb dX12_isOf_47 (by decide) ?_
            refine lv_icmp_ne (tgt := 55) hx hb dX12_isOf_48 (by decide) (fun c22 => ?_) (fun c22 => ?_)
            · replace h := ite_f h c22
              refine lv_lconst (v := (0 : Int64)) hx hb dX12_isOf_55 (by decide) ?_
              cases h
              exact r_lret C hw rfl (by decide) (by decide) dX12_isOf_56
            · replace h := ite_t h c22
              refine lv_lconst (v := (1 : Int64)) hx hb dX12_isOf_51 (by decide) ?_
              refine lv_goto (tgt := 56) hx hb dX12_isOf_52 (by decide) ?_
              cases h
              exact r_lret C hw rfl (by decide) (by decide) dX12_isOf_56
    · replace h := ite_t h c10
      refine lv_ldc2 hx hb hown (hts _ kX12_isOf_c72) dX12_isOf_20 ?_
      cases h
      exact r_lret C hw rfl (by decide) (by decide) dX12_isOf_23
theorem mX12_isOf (l : Launch) (D : va_G) (T : Nat → ClassId) (ad : Nat → Nat)  (sz : Nat)   (v1 : Int32) (v2 : Int32) (sg : Sg) (lg : Lg) {ro : Int64} {so : Sg} {lo : Lg} (h : fX12_isOf v1 v2 sg lg = some (ro, so, lo)) : Met l yX12_isOf wsX12_isOf rmX12_isOf (PreZ ZM D vwCl T (tysM T) ad sg lg false [] [.ref (ad 0), .int v1, .int v2] sz) (QL ZM D vwCl T (tysM T) (va_A (zwd ZM T ad sg lg) sz) (fun z => ad = z) ro so lo) 0 0 (va_A (zwd ZM T ad sg lg) sz) :=
  metZ [.ref (ad 0), .int v1, .int v2] sz (by decide) rfl (Nat.le_of_ble_eq_true rfl) (fun p e s m below meth c ls C hw hl => tX12_isOf_0 C v1 v2 sg lg _ _ _ hw hl h)
-- PeckYardModel.pecks(II)J
def rmX12_pecks : Room := { frames := 2, cells := 0, slots := 0, locals := 46 }
theorem kX12_pecks_c72 : Cond.constantLong RX12 72 (-2000000001) ∈ wsX12_pecks := by decide +kernel
theorem kX12_pecks_c64 : Cond.constantLong RX12 64 (11) ∈ wsX12_pecks := by decide +kernel
def fX12_pecks  (v1 : Int32) (v2 : Int32) (sg : Sg) (lg : Lg) : Option (Int64 × Sg × Lg) :=
  bnd3 (fX12_isHen v1 sg lg) (fun y1 sg2 lg3 => (if y1 = 0 then some ((-2000000001 : Int64), sg2, lg3) else bnd3 (fX12_isIn v2.toInt64 (0 : Int64) (11 : Int64) sg2 lg3) (fun y6 sg7 lg8 => (if y6 = 0 then some ((-2000000001 : Int64), sg7, lg8) else (if v2 = v1 then some ((-2000000001 : Int64), sg7, lg8) else bnd3 (fX12_peckOf v1 v2 sg7 lg8) (fun y12 sg13 lg14 => some (y12.toInt64, sg13, lg14)))))))
set_option maxHeartbeats 4000000 in
set_option maxRecDepth 100000 in
theorem tX12_pecks_0 (C : Cx p s m args meth c cX12_pecks 3 RX12 wsX12_pecks (some .long) D vwCl (tysM T) A false []) {ro : Int64} {so : Sg} {lo : Lg}   : ∀ (v1 : Int32) (v2 : Int32) (sg : Sg) (lg : Lg), ∀ (H : Heap) (locs : List Loc) (ls : Array Slot), WS ZM D vwCl T ad sg lg A s.heap H locs → lv_has ls 3 [(0, .ref (ad 0)), (1, .int v1), (2, .int v2)] → fX12_pecks v1 v2 sg lg = some (ro, so, lo) → W p l e rmX12_pecks s m args below meth c H locs 0 0 (MQ below (QL ZM D vwCl T (tysM T) A (fun z => ad = z) ro so lo) args s 0 0 A) (F0 m 0 ls []) := by
  obtain ⟨⟨hx, hb, hml, hown, hts⟩, hr, hlk, hK, hA, hsp⟩ := id C
  intro v1 v2 sg lg H locs ls hw hl h
  unfold fX12_pecks at h
  refine lv_aload_n hx hb dX12_pecks_0 rfl (lv_at hl 0 rfl) ?_
  refine lv_iload_n hx hb dX12_pecks_1 rfl (lv_at hl 1 rfl) ?_
  obtain ⟨y1, sg2, lg3, hq4, h2⟩ := bnd3_some h
  replace h := h2
  clear h2
  refine r_cVi (As := [.int v1]) (rest := []) C hw 0 (by decide) (ci := 12) rfl rfl (mX12_isHen l D T ad  H.size v1 sg lg hq4) (cwV 1 hts gX12_pecks_X12_isHen rfl rfl rfl (by decide +kernel) ⟨Nat.le_of_ble_eq_true rfl, Nat.le_of_ble_eq_true rfl⟩) rfl hl.1 rfl (Nat.le_of_ble_eq_true rfl) dX12_pecks_2 ⟨Nat.le_of_ble_eq_true rfl, Nat.le_of_ble_eq_true rfl⟩ (fun ad' H locs hp hw => ?_)
  subst hp
  refine W.widen (k := 0) (n := 0) (by decide) (by decide) ?_
  refine lv_if_eq (tgt := 25) hx hb dX12_pecks_5 (by decide) (fun c5 => ?_) (fun c5 => ?_)
  · replace h := ite_t h c5
    refine lv_ldc2 hx hb hown (hts _ kX12_pecks_c72) dX12_pecks_25 ?_
    cases h
    exact r_lret C hw rfl (by decide) (by decide) dX12_pecks_28
  · replace h := ite_f h c5
    refine lv_iload_n hx hb dX12_pecks_8 rfl (lv_at hl 2 rfl) ?_
    refine lv_i2l (v := v2.toInt64) hx hb dX12_pecks_9 rfl ?_
    refine lv_lconst (v := (0 : Int64)) hx hb dX12_pecks_10 (by decide) ?_
    refine lv_ldc2 hx hb hown (hts _ kX12_pecks_c64) dX12_pecks_11 ?_
    obtain ⟨y6, sg7, lg8, hq9, h2⟩ := bnd3_some h
    replace h := h2
    clear h2
    refine r_cSi (As := [.long v2.toInt64, .long (0 : Int64), .long (11 : Int64)]) (rest := []) C hw (mX12_isIn l D T ad  H.size v2.toInt64 (0 : Int64) (11 : Int64) sg2 lg3 hq9) (va_cwS 3 hts gX12_pecks_X12_isIn rfl rfl rfl (by decide +kernel) ⟨Nat.le_of_ble_eq_true rfl, Nat.le_of_ble_eq_true rfl⟩) rfl hl.1 rfl (Nat.le_of_ble_eq_true rfl) dX12_pecks_14 ⟨Nat.le_of_ble_eq_true rfl, Nat.le_of_ble_eq_true rfl⟩ (fun ad' H locs hp hw => ?_)
    subst hp
    refine W.widen (k := 0) (n := 0) (by decide) (by decide) ?_
    refine lv_if_eq (tgt := 25) hx hb dX12_pecks_17 (by decide) (fun c10 => ?_) (fun c10 => ?_)
    · replace h := ite_t h c10
      refine lv_ldc2 hx hb hown (hts _ kX12_pecks_c72) dX12_pecks_25 ?_
      cases h
      exact r_lret C hw rfl (by decide) (by decide) dX12_pecks_28
    · replace h := ite_f h c10
      refine lv_iload_n hx hb dX12_pecks_20 rfl (lv_at hl 2 rfl) ?_
      refine lv_iload_n hx hb dX12_pecks_21 rfl (lv_at hl 1 rfl) ?_
      refine lv_icmp_ne (tgt := 29) hx hb dX12_pecks_22 (by decide) (fun c11 => ?_) (fun c11 => ?_)
      · replace h := ite_f h c11
        refine lv_aload_n hx hb dX12_pecks_29 rfl (lv_at hl 0 rfl) ?_
        refine lv_iload_n hx hb dX12_pecks_30 rfl (lv_at hl 1 rfl) ?_
        refine lv_iload_n hx hb dX12_pecks_31 rfl (lv_at hl 2 rfl) ?_
        obtain ⟨y12, sg13, lg14, hq15, h2⟩ := bnd3_some h
        replace h := h2
        clear h2
        refine r_cVi (As := [.int v1, .int v2]) (rest := []) C hw 0 (by decide) (ci := 12) rfl rfl (mX12_peckOf l D T ad  H.size v1 v2 sg7 lg8 hq15) (cwV 2 hts gX12_pecks_X12_peckOf rfl rfl rfl (by decide +kernel) ⟨Nat.le_of_ble_eq_true rfl, Nat.le_of_ble_eq_true rfl⟩) rfl hl.1 rfl (Nat.le_of_ble_eq_true rfl) dX12_pecks_32 ⟨Nat.le_of_ble_eq_true rfl, Nat.le_of_ble_eq_true rfl⟩ (fun ad' H locs hp hw => ?_)
        subst hp
        refine W.widen (k := 0) (n := 0) (by decide) (by decide) ?_
        refine lv_i2l (v := y12.toInt64) hx hb dX12_pecks_35 rfl ?_
        cases h
        exact r_lret C hw rfl (by decide) (by decide) dX12_pecks_36
      · replace h := ite_t h c11
        refine lv_ldc2 hx hb hown (hts _ kX12_pecks_c72) dX12_pecks_25 ?_
        cases h
        exact r_lret C hw rfl (by decide) (by decide) dX12_pecks_28
theorem mX12_pecks (l : Launch) (D : va_G) (T : Nat → ClassId) (ad : Nat → Nat)  (sz : Nat)   (v1 : Int32) (v2 : Int32) (sg : Sg) (lg : Lg) {ro : Int64} {so : Sg} {lo : Lg} (h : fX12_pecks v1 v2 sg lg = some (ro, so, lo)) : Met l yX12_pecks wsX12_pecks rmX12_pecks (PreZ ZM D vwCl T (tysM T) ad sg lg false [] [.ref (ad 0), .int v1, .int v2] sz) (QL ZM D vwCl T (tysM T) (va_A (zwd ZM T ad sg lg) sz) (fun z => ad = z) ro so lo) 0 0 (va_A (zwd ZM T ad sg lg) sz) :=
  metZ [.ref (ad 0), .int v1, .int v2] sz (by decide) rfl (Nat.le_of_ble_eq_true rfl) (fun p e s m below meth c ls C hw hl => tX12_pecks_0 C v1 v2 sg lg _ _ _ hw hl h)
-- PeckYardModel.counting()I
def rmX12_counting : Room := { frames := 3, cells := 0, slots := 0, locals := 67 }
def fX12_counting_28 (r4 : (Int32 × Int32 × Sg × Lg) → Option (Int32 × Sg × Lg)) (v2 : Int32) (w0 : Int32) (w1 : Int32) (sg : Sg) (lg : Lg) : Option (Int32 × Sg × Lg) :=
  lt (w1 ||| w0) (fun x1 => lt (v2 + (1 : Int32)) (fun x2 => r4 (x1, x2, sg, lg)))
set_option maxHeartbeats 4000000 in
set_option maxRecDepth 100000 in
theorem tX12_counting_28 (C : Cx p s m args meth c cX12_counting 3 RX12 wsX12_counting (some .int) D vwCl (tysM T) A false []) {ro : Int32} {so : Sg} {lo : Lg} {r4 : (Int32 × Int32 × Sg × Lg) → Option (Int32 × Sg × Lg)} (hr4 : ∀ (v1 : Int32) (v2 : Int32) (sg : Sg) (lg : Lg), r4 (v1, v2, sg, lg) = some (ro, so, lo) → ∀ (H : Heap) (locs : List Loc) (ls : Array Slot), WS ZM D vwCl T ad sg lg A s.heap H locs → lv_has ls 3 [(0, .ref (ad 0)), (1, .int v1), (2, .int v2)] → W p l e rmX12_counting s m args below meth c H locs 0 0 (MQ below (QI ZM D vwCl T (tysM T) A (fun z => ad = z) ro so lo) args s 0 0 A) (F0 m 4 ls [])) : ∀ (v2 : Int32) (w0 : Int32) (w1 : Int32) (sg : Sg) (lg : Lg), ∀ (H : Heap) (locs : List Loc) (ls : Array Slot), WS ZM D vwCl T ad sg lg A s.heap H locs → lv_has ls 3 [(0, .ref (ad 0)), (2, .int v2)] → fX12_counting_28 r4 v2 w0 w1 sg lg = some (ro, so, lo) → W p l e rmX12_counting s m args below meth c H locs 0 0 (MQ below (QI ZM D vwCl T (tysM T) A (fun z => ad = z) ro so lo) args s 0 0 A) (F0 m 28 ls [.int w0, .int w1]) := by
  obtain ⟨⟨hx, hb, hml, hown, hts⟩, hr, hlk, hK, hA, hsp⟩ := id C
  intro v2 w0 w1 sg lg H locs ls hw hl h
  unfold fX12_counting_28 at h
  refine lv_ior hx hb dX12_counting_28 ?_
  refine lv_topi (fun x1 ex1 => ?_)
  replace h := lt_get h x1 ex1
  refine lv_istore_n (lv' := [(1, .int x1), (0, .ref (ad 0)), (2, .int v2)]) hx hb dX12_counting_29 rfl hl (by decide) rfl (fun ls hl => ?_)
  obtain ⟨x2, ex2⟩ : ∃ z : Int32, z = (v2 + (1 : Int32)) := ⟨_, rfl⟩
  replace h := lt_get h x2 ex2
  refine lv_iinc (v := x2) (lv' := [(2, .int x2), (1, .int x1), (0, .ref (ad 0))]) hx hb dX12_counting_30 hl (k := 2) rfl (by rw [ex2]; rfl) (by decide) rfl (fun ls hl => ?_)
  refine lv_goto (tgt := 4) hx hb dX12_counting_33 (by decide) ?_
  exact hr4 x1 x2 sg lg h _ _ _ hw (lv_sub hl [2, 1, 0] rfl)
def fX12_counting_4 (r4 : (Int32 × Int32 × Sg × Lg) → Option (Int32 × Sg × Lg)) (v1 : Int32) (v2 : Int32) (sg : Sg) (lg : Lg) : Option (Int32 × Sg × Lg) :=
  bnd3 (fX12_hens sg lg) (fun y1 sg2 lg3 => (if y1 ≤ v2 then some (v1, sg2, lg3) else bnd3 (fX12_counts v2 sg2 lg3) (fun y6 sg7 lg8 => (if y6 = 0 then fX12_counting_28 r4 v2 (0 : Int32) v1 sg7 lg8 else fX12_counting_28 r4 v2 ((1 : Int32) <<< (v2 &&& 31)) v1 sg7 lg8))))
set_option maxHeartbeats 4000000 in
set_option maxRecDepth 100000 in
theorem tX12_counting_4 (C : Cx p s m args meth c cX12_counting 3 RX12 wsX12_counting (some .int) D vwCl (tysM T) A false []) {ro : Int32} {so : Sg} {lo : Lg} {r4 : (Int32 × Int32 × Sg × Lg) → Option (Int32 × Sg × Lg)} (hr4 : ∀ (v1 : Int32) (v2 : Int32) (sg : Sg) (lg : Lg), r4 (v1, v2, sg, lg) = some (ro, so, lo) → ∀ (H : Heap) (locs : List Loc) (ls : Array Slot), WS ZM D vwCl T ad sg lg A s.heap H locs → lv_has ls 3 [(0, .ref (ad 0)), (1, .int v1), (2, .int v2)] → W p l e rmX12_counting s m args below meth c H locs 0 0 (MQ below (QI ZM D vwCl T (tysM T) A (fun z => ad = z) ro so lo) args s 0 0 A) (F0 m 4 ls [])) : ∀ (v1 : Int32) (v2 : Int32) (sg : Sg) (lg : Lg), ∀ (H : Heap) (locs : List Loc) (ls : Array Slot), WS ZM D vwCl T ad sg lg A s.heap H locs → lv_has ls 3 [(0, .ref (ad 0)), (1, .int v1), (2, .int v2)] → fX12_counting_4 r4 v1 v2 sg lg = some (ro, so, lo) → W p l e rmX12_counting s m args below meth c H locs 0 0 (MQ below (QI ZM D vwCl T (tysM T) A (fun z => ad = z) ro so lo) args s 0 0 A) (F0 m 4 ls []) := by
  obtain ⟨⟨hx, hb, hml, hown, hts⟩, hr, hlk, hK, hA, hsp⟩ := id C
  intro v1 v2 sg lg H locs ls hw hl h
  unfold fX12_counting_4 at h
  refine lv_iload_n hx hb dX12_counting_4 rfl (lv_at hl 2 rfl) ?_
  refine lv_aload_n hx hb dX12_counting_5 rfl (lv_at hl 0 rfl) ?_
  obtain ⟨y1, sg2, lg3, hq4, h2⟩ := bnd3_some h
  replace h := h2
  clear h2
  refine r_cVi (As := []) (rest := [.int v2]) C hw 0 (by decide) (ci := 12) rfl rfl (mX12_hens l D T ad  H.size sg lg hq4) (cwV 0 hts gX12_counting_X12_hens rfl rfl rfl (by decide +kernel) ⟨Nat.le_of_ble_eq_true rfl, Nat.le_of_ble_eq_true rfl⟩) rfl hl.1 rfl (Nat.le_of_ble_eq_true rfl) dX12_counting_6 ⟨Nat.le_of_ble_eq_true rfl, Nat.le_of_ble_eq_true rfl⟩ (fun ad' H locs hp hw => ?_)
  subst hp
  refine W.widen (k := 0) (n := 0) (by decide) (by decide) ?_
  refine lv_icmp_ge (tgt := 36) hx hb dX12_counting_9 (by decide) (fun c5 => ?_) (fun c5 => ?_)
  · replace h := ite_t h c5
    refine lv_iload_n hx hb dX12_counting_36 rfl (lv_at hl 1 rfl) ?_
    cases h
    exact r_iret C hw rfl (by decide) (by decide) dX12_counting_37
  · replace h := ite_f h c5
    refine lv_iload_n hx hb dX12_counting_12 rfl (lv_at hl 1 rfl) ?_
    refine lv_aload_n hx hb dX12_counting_13 rfl (lv_at hl 0 rfl) ?_
    refine lv_iload_n hx hb dX12_counting_14 rfl (lv_at hl 2 rfl) ?_
    obtain ⟨y6, sg7, lg8, hq9, h2⟩ := bnd3_some h
    replace h := h2
    clear h2
    refine r_cVi (As := [.int v2]) (rest := [.int v1]) C hw 0 (by decide) (ci := 12) rfl rfl (mX12_counts l D T ad  H.size v2 sg2 lg3 hq9) (cwV 1 hts gX12_counting_X12_counts rfl rfl rfl (by decide +kernel) ⟨Nat.le_of_ble_eq_true rfl, Nat.le_of_ble_eq_true rfl⟩) rfl hl.1 rfl (Nat.le_of_ble_eq_true rfl) dX12_counting_15 ⟨Nat.le_of_ble_eq_true rfl, Nat.le_of_ble_eq_true rfl⟩ (fun ad' H locs hp hw => ?_)
    subst hp
    refine W.widen (k := 0) (n := 0) (by decide) (by decide) ?_
    refine lv_if_eq (tgt := 27) hx hb dX12_counting_18 (by decide) (fun c10 => ?_) (fun c10 => ?_)
    · replace h := ite_t h c10
      refine lv_iconst (v := (0 : Int32)) hx hb dX12_counting_27 (by decide) ?_
      exact tX12_counting_28 C hr4 v2 (0 : Int32) v1 sg7 lg8 _ _ _ hw (lv_sub hl [0, 2] rfl) h
    · replace h := ite_f h c10
      refine lv_iconst (v := (1 : Int32)) hx hb dX12_counting_21 (by decide) ?_
      refine lv_iload_n hx hb dX12_counting_22 rfl (lv_at hl 2 rfl) ?_
      refine lv_ishl hx hb dX12_counting_23 ?_
      refine lv_goto (tgt := 28) hx hb dX12_counting_24 (by decide) ?_
      exact tX12_counting_28 C hr4 v2 ((1 : Int32) <<< (v2 &&& 31)) v1 sg7 lg8 _ _ _ hw (lv_sub hl [0, 2] rfl) h
def LX12_counting_4  : (Int32 × Int32 × Sg × Lg) → Option (Int32 × Sg × Lg) := loop (fun rec z => fX12_counting_4 rec z.1 z.2.1 z.2.2.1 z.2.2.2)
theorem TX12_counting_4 (C : Cx p s m args meth c cX12_counting 3 RX12 wsX12_counting (some .int) D vwCl (tysM T) A false []) {ro : Int32} {so : Sg} {lo : Lg}   : ∀ (v1 : Int32) (v2 : Int32) (sg : Sg) (lg : Lg), LX12_counting_4 (v1, v2, sg, lg) = some (ro, so, lo) → ∀ (H : Heap) (locs : List Loc) (ls : Array Slot), WS ZM D vwCl T ad sg lg A s.heap H locs → lv_has ls 3 [(0, .ref (ad 0)), (1, .int v1), (2, .int v2)] → W p l e rmX12_counting s m args below meth c H locs 0 0 (MQ below (QI ZM D vwCl T (tysM T) A (fun z => ad = z) ro so lo) args s 0 0 A) (F0 m 4 ls []) := by
  have key : ∀ z : (Int32 × Int32 × Sg × Lg), LX12_counting_4  z = some (ro, so, lo) → ∀ (H : Heap) (locs : List Loc) (ls : Array Slot), WS ZM D vwCl T ad z.2.2.1 z.2.2.2 A s.heap H locs → lv_has ls 3 [(0, .ref (ad 0)), (1, .int z.1), (2, .int z.2.1)] → W p l e rmX12_counting s m args below meth c H locs 0 0 (MQ below (QI ZM D vwCl T (tysM T) A (fun z => ad = z) ro so lo) args s 0 0 A) (F0 m 4 ls []) := by
    intro z h
    unfold LX12_counting_4 at h
    exact loop_ind (fun rec z => fX12_counting_4 rec z.1 z.2.1 z.2.2.1 z.2.2.2) (y := (ro, so, lo)) (P := fun z => ∀ (H : Heap) (locs : List Loc) (ls : Array Slot), WS ZM D vwCl T ad z.2.2.1 z.2.2.2 A s.heap H locs → lv_has ls 3 [(0, .ref (ad 0)), (1, .int z.1), (2, .int z.2.1)] → W p l e rmX12_counting s m args below meth c H locs 0 0 (MQ below (QI ZM D vwCl T (tysM T) A (fun z => ad = z) ro so lo) args s 0 0 A) (F0 m 4 ls [])) (fun rec hrec z h H locs ls hw hl => tX12_counting_4 C  (fun v1 v2 sg lg => hrec (v1, v2, sg, lg)) z.1 z.2.1 z.2.2.1 z.2.2.2 H locs ls hw hl h) z h
  exact fun v1 v2 sg lg => key (v1, v2, sg, lg)
def fX12_counting  (sg : Sg) (lg : Lg) : Option (Int32 × Sg × Lg) :=
  LX12_counting_4 ((0 : Int32), (0 : Int32), sg, lg)
set_option maxHeartbeats 4000000 in
set_option maxRecDepth 100000 in
theorem tX12_counting_0 (C : Cx p s m args meth c cX12_counting 3 RX12 wsX12_counting (some .int) D vwCl (tysM T) A false []) {ro : Int32} {so : Sg} {lo : Lg}   : ∀ (sg : Sg) (lg : Lg), ∀ (H : Heap) (locs : List Loc) (ls : Array Slot), WS ZM D vwCl T ad sg lg A s.heap H locs → lv_has ls 3 [(0, .ref (ad 0))] → fX12_counting sg lg = some (ro, so, lo) → W p l e rmX12_counting s m args below meth c H locs 0 0 (MQ below (QI ZM D vwCl T (tysM T) A (fun z => ad = z) ro so lo) args s 0 0 A) (F0 m 0 ls []) := by
  obtain ⟨⟨hx, hb, hml, hown, hts⟩, hr, hlk, hK, hA, hsp⟩ := id C
  intro sg lg H locs ls hw hl h
  unfold fX12_counting at h
  refine lv_iconst (v := (0 : Int32)) hx hb dX12_counting_0 (by decide) ?_
  refine lv_istore_n (lv' := [(1, .int (0 : Int32)), (0, .ref (ad 0))]) hx hb dX12_counting_1 rfl hl (by decide) rfl (fun ls hl => ?_)
  refine lv_iconst (v := (0 : Int32)) hx hb dX12_counting_2 (by decide) ?_
  refine lv_istore_n (lv' := [(2, .int (0 : Int32)), (1, .int (0 : Int32)), (0, .ref (ad 0))]) hx hb dX12_counting_3 rfl hl (by decide) rfl (fun ls hl => ?_)
  exact TX12_counting_4 C (0 : Int32) (0 : Int32) sg lg h _ _ _ hw (lv_sub hl [2, 1, 0] rfl)
theorem mX12_counting (l : Launch) (D : va_G) (T : Nat → ClassId) (ad : Nat → Nat)  (sz : Nat)   (sg : Sg) (lg : Lg) {ro : Int32} {so : Sg} {lo : Lg} (h : fX12_counting sg lg = some (ro, so, lo)) : Met l yX12_counting wsX12_counting rmX12_counting (PreZ ZM D vwCl T (tysM T) ad sg lg false [] [.ref (ad 0)] sz) (QI ZM D vwCl T (tysM T) (va_A (zwd ZM T ad sg lg) sz) (fun z => ad = z) ro so lo) 0 0 (va_A (zwd ZM T ad sg lg) sz) :=
  metZ [.ref (ad 0)] sz (by decide) rfl (Nat.le_of_ble_eq_true rfl) (fun p e s m below meth c ls C hw hl => tX12_counting_0 C sg lg _ _ _ hw hl h)
-- PeckYardModel.askedBy(I)I
def rmX12_askedBy : Room := { frames := 3, cells := 0, slots := 0, locals := 67 }
theorem kX12_askedBy_c94 : Cond.constantLong RX12 94 (3) ∈ wsX12_askedBy := by decide +kernel
def fX12_askedBy  (v1 : Int32) (sg : Sg) (lg : Lg) : Option (Int32 × Sg × Lg) :=
  bnd3 (fX12_kind v1 sg lg) (fun y1 sg2 lg3 => bnd3 (fX12_isIn y1.toInt64 (1 : Int64) (3 : Int64) sg2 lg3) (fun y5 sg6 lg7 => (if y5 = 0 then some ((-1 : Int32), sg6, lg7) else bnd3 (fX12_counts v1 sg6 lg7) (fun y10 sg11 lg12 => (if y10 = 0 then some ((-1 : Int32), sg11, lg12) else bnd3 (fX12_asks v1 sg11 lg12) (fun y15 sg16 lg17 => bnd3 (fX12_counts y15 sg16 lg17) (fun y19 sg20 lg21 => (if y19 = 0 then some ((-1 : Int32), sg20, lg21) else bnd3 (fX12_asks v1 sg20 lg21) (fun y24 sg25 lg26 => some (y24, sg25, lg26))))))))))
set_option maxHeartbeats 4000000 in
set_option maxRecDepth 100000 in
theorem tX12_askedBy_0 (C : Cx p s m args meth c cX12_askedBy 2 RX12 wsX12_askedBy (some .int) D vwCl (tysM T) A false []) {ro : Int32} {so : Sg} {lo : Lg}   : ∀ (v1 : Int32) (sg : Sg) (lg : Lg), ∀ (H : Heap) (locs : List Loc) (ls : Array Slot), WS ZM D vwCl T ad sg lg A s.heap H locs → lv_has ls 2 [(0, .ref (ad 0)), (1, .int v1)] → fX12_askedBy v1 sg lg = some (ro, so, lo) → W p l e rmX12_askedBy s m args below meth c H locs 0 0 (MQ below (QI ZM D vwCl T (tysM T) A (fun z => ad = z) ro so lo) args s 0 0 A) (F0 m 0 ls []) := by
  obtain ⟨⟨hx, hb, hml, hown, hts⟩, hr, hlk, hK, hA, hsp⟩ := id C
  intro v1 sg lg H locs ls hw hl h
  unfold fX12_askedBy at h
  refine lv_aload_n hx hb dX12_askedBy_0 rfl (lv_at hl 0 rfl) ?_
  refine lv_iload_n hx hb dX12_askedBy_1 rfl (lv_at hl 1 rfl) ?_
  obtain ⟨y1, sg2, lg3, hq4, h2⟩ := bnd3_some h
  replace h := h2
  clear h2
  refine r_cVi (As := [.int v1]) (rest := []) C hw 0 (by decide) (ci := 12) rfl rfl (mX12_kind l D T ad  H.size v1 sg lg hq4) (cwV 1 hts gX12_askedBy_X12_kind rfl rfl rfl (by decide +kernel) ⟨Nat.le_of_ble_eq_true rfl, Nat.le_of_ble_eq_true rfl⟩) rfl hl.1 rfl (Nat.le_of_ble_eq_true rfl) dX12_askedBy_2 ⟨Nat.le_of_ble_eq_true rfl, Nat.le_of_ble_eq_true rfl⟩ (fun ad' H locs hp hw => ?_)
  subst hp
  refine W.widen (k := 0) (n := 0) (by decide) (by decide) ?_
  refine lv_i2l (v := y1.toInt64) hx hb dX12_askedBy_5 rfl ?_
  refine lv_lconst (v := (1 : Int64)) hx hb dX12_askedBy_6 (by decide) ?_
  refine lv_ldc2 hx hb hown (hts _ kX12_askedBy_c94) dX12_askedBy_7 ?_
  obtain ⟨y5, sg6, lg7, hq8, h2⟩ := bnd3_some h
  replace h := h2
  clear h2
  refine r_cSi (As := [.long y1.toInt64, .long (1 : Int64), .long (3 : Int64)]) (rest := []) C hw (mX12_isIn l D T ad  H.size y1.toInt64 (1 : Int64) (3 : Int64) sg2 lg3 hq8) (va_cwS 3 hts gX12_askedBy_X12_isIn rfl rfl rfl (by decide +kernel) ⟨Nat.le_of_ble_eq_true rfl, Nat.le_of_ble_eq_true rfl⟩) rfl hl.1 rfl (Nat.le_of_ble_eq_true rfl) dX12_askedBy_10 ⟨Nat.le_of_ble_eq_true rfl, Nat.le_of_ble_eq_true rfl⟩ (fun ad' H locs hp hw => ?_)
  subst hp
  refine W.widen (k := 0) (n := 0) (by decide) (by decide) ?_
  refine lv_if_eq (tgt := 44) hx hb dX12_askedBy_13 (by decide) (fun c9 => ?_) (fun c9 => ?_)
  · replace h := ite_t h c9
    refine lv_iconst (v := (-1 : Int32)) hx hb dX12_askedBy_44 (by decide) ?_
    cases h
    exact r_iret C hw rfl (by decide) (by decide) dX12_askedBy_45
  · replace h := ite_f h c9
    refine lv_aload_n hx hb dX12_askedBy_16 rfl (lv_at hl 0 rfl) ?_
    refine lv_iload_n hx hb dX12_askedBy_17 rfl (lv_at hl 1 rfl) ?_
    obtain ⟨y10, sg11, lg12, hq13, h2⟩ := bnd3_some h
    replace h := h2
    clear h2
    refine r_cVi (As := [.int v1]) (rest := []) C hw 0 (by decide) (ci := 12) rfl rfl (mX12_counts l D T ad  H.size v1 sg6 lg7 hq13) (cwV 1 hts gX12_askedBy_X12_counts rfl rfl rfl (by decide +kernel) ⟨Nat.le_of_ble_eq_true rfl, Nat.le_of_ble_eq_true rfl⟩) rfl hl.1 rfl (Nat.le_of_ble_eq_true rfl) dX12_askedBy_18 ⟨Nat.le_of_ble_eq_true rfl, Nat.le_of_ble_eq_true rfl⟩ (fun ad' H locs hp hw => ?_)
    subst hp
    refine W.widen (k := 0) (n := 0) (by decide) (by decide) ?_
    refine lv_if_eq (tgt := 44) hx hb dX12_askedBy_21 (by decide) (fun c14 => ?_) (fun c14 => ?_)
    · replace h := ite_t h c14
      refine lv_iconst (v := (-1 : Int32)) hx hb dX12_askedBy_44 (by decide) ?_
      cases h
      exact r_iret C hw rfl (by decide) (by decide) dX12_askedBy_45
    · replace h := ite_f h c14
      refine lv_aload_n hx hb dX12_askedBy_24 rfl (lv_at hl 0 rfl) ?_
      refine lv_aload_n hx hb dX12_askedBy_25 rfl (lv_at hl 0 rfl) ?_
      refine lv_iload_n hx hb dX12_askedBy_26 rfl (lv_at hl 1 rfl) ?_
      obtain ⟨y15, sg16, lg17, hq18, h2⟩ := bnd3_some h
      replace h := h2
      clear h2
      refine r_cVi (As := [.int v1]) (rest := [.ref (ad 0)]) C hw 0 (by decide) (ci := 12) rfl rfl (mX12_asks l D T ad  H.size v1 sg11 lg12 hq18) (cwV 1 hts gX12_askedBy_X12_asks rfl rfl rfl (by decide +kernel) ⟨Nat.le_of_ble_eq_true rfl, Nat.le_of_ble_eq_true rfl⟩) rfl hl.1 rfl (Nat.le_of_ble_eq_true rfl) dX12_askedBy_27 ⟨Nat.le_of_ble_eq_true rfl, Nat.le_of_ble_eq_true rfl⟩ (fun ad' H locs hp hw => ?_)
      subst hp
      refine W.widen (k := 0) (n := 0) (by decide) (by decide) ?_
      obtain ⟨y19, sg20, lg21, hq22, h2⟩ := bnd3_some h
      replace h := h2
      clear h2
      refine r_cVi (As := [.int y15]) (rest := []) C hw 0 (by decide) (ci := 12) rfl rfl (mX12_counts l D T ad  H.size y15 sg16 lg17 hq22) (cwV 1 hts gX12_askedBy_X12_counts rfl rfl rfl (by decide +kernel) ⟨Nat.le_of_ble_eq_true rfl, Nat.le_of_ble_eq_true rfl⟩) rfl hl.1 rfl (Nat.le_of_ble_eq_true rfl) dX12_askedBy_30 ⟨Nat.le_of_ble_eq_true rfl, Nat.le_of_ble_eq_true rfl⟩ (fun ad' H locs hp hw => ?_)
      subst hp
      refine W.widen (k := 0) (n := 0) (by decide) (by decide) ?_
      refine lv_if_eq (tgt := 44) hx hb dX12_askedBy_33 (by decide) (fun c23 => ?_) (fun c23 => ?_)
      · replace h := ite_t h c23
        refine lv_iconst (v := (-1 : Int32)) hx hb dX12_askedBy_44 (by decide) ?_
        cases h
        exact r_iret C hw rfl (by decide) (by decide) dX12_askedBy_45
      · replace h := ite_f h c23
        refine lv_aload_n hx hb dX12_askedBy_36 rfl (lv_at hl 0 rfl) ?_
        refine lv_iload_n hx hb dX12_askedBy_37 rfl (lv_at hl 1 rfl) ?_
        obtain ⟨y24, sg25, lg26, hq27, h2⟩ := bnd3_some h
        replace h := h2
        clear h2
        refine r_cVi (As := [.int v1]) (rest := []) C hw 0 (by decide) (ci := 12) rfl rfl (mX12_asks l D T ad  H.size v1 sg20 lg21 hq27) (cwV 1 hts gX12_askedBy_X12_asks rfl rfl rfl (by decide +kernel) ⟨Nat.le_of_ble_eq_true rfl, Nat.le_of_ble_eq_true rfl⟩) rfl hl.1 rfl (Nat.le_of_ble_eq_true rfl) dX12_askedBy_38 ⟨Nat.le_of_ble_eq_true rfl, Nat.le_of_ble_eq_true rfl⟩ (fun ad' H locs hp hw => ?_)
        subst hp
        refine W.widen (k := 0) (n := 0) (by decide) (by decide) ?_
        refine lv_goto (tgt := 45) hx hb dX12_askedBy_41 (by decide) ?_
        cases h
        exact r_iret C hw rfl (by decide) (by decide) dX12_askedBy_45
theorem mX12_askedBy (l : Launch) (D : va_G) (T : Nat → ClassId) (ad : Nat → Nat)  (sz : Nat)   (v1 : Int32) (sg : Sg) (lg : Lg) {ro : Int32} {so : Sg} {lo : Lg} (h : fX12_askedBy v1 sg lg = some (ro, so, lo)) : Met l yX12_askedBy wsX12_askedBy rmX12_askedBy (PreZ ZM D vwCl T (tysM T) ad sg lg false [] [.ref (ad 0), .int v1] sz) (QI ZM D vwCl T (tysM T) (va_A (zwd ZM T ad sg lg) sz) (fun z => ad = z) ro so lo) 0 0 (va_A (zwd ZM T ad sg lg) sz) :=
  metZ [.ref (ad 0), .int v1] sz (by decide) rfl (Nat.le_of_ble_eq_true rfl) (fun p e s m below meth c ls C hw hl => tX12_askedBy_0 C v1 sg lg _ _ _ hw hl h)
-- PeckYardModel.may(III)Z
def rmX12_may : Room := { frames := 4, cells := 0, slots := 0, locals := 88 }
def fX12_may_29  (v1 : Int32) (v3 : Int32) (v4 : Int32) (w0 : Int32) (sg : Sg) (lg : Lg) : Option (Int32 × Sg × Lg) :=
  bnd3 (fX12_kind v1 sg lg) (fun y1 sg2 lg3 => (if y1 = (1 : Int32) then gz w0 (some (w0, sg2, lg3)) else bnd3 (fX12_kind v1 sg2 lg3) (fun y6 sg7 lg8 => (if y6 = (2 : Int32) then (if w0 = 0 then some ((1 : Int32), sg7, lg8) else some ((0 : Int32), sg7, lg8)) else (if v3 = v4 then some ((1 : Int32), sg7, lg8) else some ((0 : Int32), sg7, lg8))))))
set_option maxHeartbeats 4000000 in
set_option maxRecDepth 100000 in
theorem tX12_may_29 (C : Cx p s m args meth c cX12_may 6 RX12 wsX12_may (some .boolean) D vwCl (tysM T) A false []) {ro : Int32} {so : Sg} {lo : Lg}   : ∀ (v1 : Int32) (v3 : Int32) (v4 : Int32) (w0 : Int32) (sg : Sg) (lg : Lg), ∀ (H : Heap) (locs : List Loc) (ls : Array Slot), WS ZM D vwCl T ad sg lg A s.heap H locs → lv_has ls 6 [(0, .ref (ad 0)), (1, .int v1), (3, .int v3), (4, .int v4)] → fX12_may_29 v1 v3 v4 w0 sg lg = some (ro, so, lo) → W p l e rmX12_may s m args below meth c H locs 0 0 (MQ below (QI ZM D vwCl T (tysM T) A (fun z => ad = z) ro so lo) args s 0 0 A) (F0 m 29 ls [.int w0]) := by
  obtain ⟨⟨hx, hb, hml, hown, hts⟩, hr, hlk, hK, hA, hsp⟩ := id C
  intro v1 v3 v4 w0 sg lg H locs ls hw hl h
  unfold fX12_may_29 at h
  refine lv_istore (lv' := [(5, .int w0), (0, .ref (ad 0)), (1, .int v1), (3, .int v3), (4, .int v4)]) hx hb dX12_may_29 hl (by decide) rfl (fun ls hl => ?_)
  refine lv_aload_n hx hb dX12_may_31 rfl (lv_at hl 1 rfl) ?_
  refine lv_iload_n hx hb dX12_may_32 rfl (lv_at hl 2 rfl) ?_
  obtain ⟨y1, sg2, lg3, hq4, h2⟩ := bnd3_some h
  replace h := h2
  clear h2
  refine r_cVi (As := [.int v1]) (rest := []) C hw 0 (by decide) (ci := 12) rfl rfl (mX12_kind l D T ad  H.size v1 sg lg hq4) (cwV 1 hts gX12_may_X12_kind rfl rfl rfl (by decide +kernel) ⟨Nat.le_of_ble_eq_true rfl, Nat.le_of_ble_eq_true rfl⟩) rfl hl.1 rfl (Nat.le_of_ble_eq_true rfl) dX12_may_33 ⟨Nat.le_of_ble_eq_true rfl, Nat.le_of_ble_eq_true rfl⟩ (fun ad' H locs hp hw => ?_)
  subst hp
  refine W.widen (k := 0) (n := 0) (by decide) (by decide) ?_
  refine lv_iconst (v := (1 : Int32)) hx hb dX12_may_36 (by decide) ?_
  refine lv_icmp_ne (tgt := 45) hx hb dX12_may_37 (by decide) (fun c5 => ?_) (fun c5 => ?_)
  · replace h := ite_f h c5
    refine lv_aload_n hx hb dX12_may_45 rfl (lv_at hl 1 rfl) ?_
    refine lv_iload_n hx hb dX12_may_46 rfl (lv_at hl 2 rfl) ?_
    obtain ⟨y6, sg7, lg8, hq9, h2⟩ := bnd3_some h
    replace h := h2
    clear h2
    refine r_cVi (As := [.int v1]) (rest := []) C hw 0 (by decide) (ci := 12) rfl rfl (mX12_kind l D T ad  H.size v1 sg2 lg3 hq9) (cwV 1 hts gX12_may_X12_kind rfl rfl rfl (by decide +kernel) ⟨Nat.le_of_ble_eq_true rfl, Nat.le_of_ble_eq_true rfl⟩) rfl hl.1 rfl (Nat.le_of_ble_eq_true rfl) dX12_may_47 ⟨Nat.le_of_ble_eq_true rfl, Nat.le_of_ble_eq_true rfl⟩ (fun ad' H locs hp hw => ?_)
    subst hp
    refine W.widen (k := 0) (n := 0) (by decide) (by decide) ?_
    refine lv_iconst (v := (2 : Int32)) hx hb dX12_may_50 (by decide) ?_
    refine lv_icmp_ne (tgt := 67) hx hb dX12_may_51 (by decide) (fun c10 => ?_) (fun c10 => ?_)
    · replace h := ite_f h c10
      refine lv_iload_n hx hb dX12_may_67 rfl (lv_at hl 3 rfl) ?_
      refine lv_iload hx hb dX12_may_68 (lv_at hl 4 rfl) ?_
      refine lv_icmp_ne (tgt := 77) hx hb dX12_may_70 (by decide) (fun c11 => ?_) (fun c11 => ?_)
      · replace h := ite_f h c11
        refine lv_iconst (v := (0 : Int32)) hx hb dX12_may_77 (by decide) ?_
        cases h
        exact r_zret C hw rfl (by decide) (by decide) (by decide) dX12_may_78
      · replace h := ite_t h c11
        refine lv_iconst (v := (1 : Int32)) hx hb dX12_may_73 (by decide) ?_
        refine lv_goto (tgt := 78) hx hb dX12_may_74 (by decide) ?_
        cases h
        exact r_zret C hw rfl (by decide) (by decide) (by decide) dX12_may_78
    · replace h := ite_t h c10
      refine lv_iload hx hb dX12_may_54 (lv_at hl 0 rfl) ?_
      refine lv_if_ne (tgt := 63) hx hb dX12_may_56 (by decide) (fun c12 => ?_) (fun c12 => ?_)
      · replace h := ite_f h c12
        refine lv_iconst (v := (0 : Int32)) hx hb dX12_may_63 (by decide) ?_
        refine lv_goto (tgt := 78) hx hb dX12_may_64 (by decide) ?_
        cases h
        exact r_zret C hw rfl (by decide) (by decide) (by decide) dX12_may_78
      · replace h := ite_t h c12
        refine lv_iconst (v := (1 : Int32)) hx hb dX12_may_59 (by decide) ?_
        refine lv_goto (tgt := 78) hx hb dX12_may_60 (by decide) ?_
        cases h
        exact r_zret C hw rfl (by decide) (by decide) (by decide) dX12_may_78
  · replace h := ite_t h c5
    refine lv_iload hx hb dX12_may_40 (lv_at hl 0 rfl) ?_
    refine lv_goto (tgt := 78) hx hb dX12_may_42 (by decide) ?_
    have hz13 := (gz_some h).1
    replace h := (gz_some h).2
    cases h
    exact r_zret C hw rfl hz13 (by decide) (by decide) dX12_may_78
def fX12_may  (v1 : Int32) (v2 : Int32) (v3 : Int32) (sg : Sg) (lg : Lg) : Option (Int32 × Sg × Lg) :=
  bnd3 (fX12_askedBy v1 sg lg) (fun y1 sg2 lg3 => (if 0 ≤ y1 then (if ((v2 >>> (y1 &&& 31)) &&& (1 : Int32)) = (1 : Int32) then fX12_may_29 v1 v3 y1 (1 : Int32) sg2 lg3 else fX12_may_29 v1 v3 y1 (0 : Int32) sg2 lg3) else some ((1 : Int32), sg2, lg3)))
set_option maxHeartbeats 4000000 in
set_option maxRecDepth 100000 in
theorem tX12_may_0 (C : Cx p s m args meth c cX12_may 6 RX12 wsX12_may (some .boolean) D vwCl (tysM T) A false []) {ro : Int32} {so : Sg} {lo : Lg}   : ∀ (v1 : Int32) (v2 : Int32) (v3 : Int32) (sg : Sg) (lg : Lg), ∀ (H : Heap) (locs : List Loc) (ls : Array Slot), WS ZM D vwCl T ad sg lg A s.heap H locs → lv_has ls 6 [(0, .ref (ad 0)), (1, .int v1), (2, .int v2), (3, .int v3)] → fX12_may v1 v2 v3 sg lg = some (ro, so, lo) → W p l e rmX12_may s m args below meth c H locs 0 0 (MQ below (QI ZM D vwCl T (tysM T) A (fun z => ad = z) ro so lo) args s 0 0 A) (F0 m 0 ls []) := by
  obtain ⟨⟨hx, hb, hml, hown, hts⟩, hr, hlk, hK, hA, hsp⟩ := id C
  intro v1 v2 v3 sg lg H locs ls hw hl h
  unfold fX12_may at h
  refine lv_aload_n hx hb dX12_may_0 rfl (lv_at hl 0 rfl) ?_
  refine lv_iload_n hx hb dX12_may_1 rfl (lv_at hl 1 rfl) ?_
  obtain ⟨y1, sg2, lg3, hq4, h2⟩ := bnd3_some h
  replace h := h2
  clear h2
  refine r_cVi (As := [.int v1]) (rest := []) C hw 0 (by decide) (ci := 12) rfl rfl (mX12_askedBy l D T ad  H.size v1 sg lg hq4) (cwV 1 hts gX12_may_X12_askedBy rfl rfl rfl (by decide +kernel) ⟨Nat.le_of_ble_eq_true rfl, Nat.le_of_ble_eq_true rfl⟩) rfl hl.1 rfl (Nat.le_of_ble_eq_true rfl) dX12_may_2 ⟨Nat.le_of_ble_eq_true rfl, Nat.le_of_ble_eq_true rfl⟩ (fun ad' H locs hp hw => ?_)
  subst hp
  refine W.widen (k := 0) (n := 0) (by decide) (by decide) ?_
  refine lv_istore (lv' := [(4, .int y1), (0, .ref (ad 0)), (1, .int v1), (2, .int v2), (3, .int v3)]) hx hb dX12_may_5 hl (by decide) rfl (fun ls hl => ?_)
  refine lv_iload hx hb dX12_may_7 (lv_at hl 0 rfl) ?_
  refine lv_if_ge (tgt := 14) hx hb dX12_may_9 (by decide) (fun c5 => ?_) (fun c5 => ?_)
  · replace h := ite_t h c5
    refine lv_iload_n hx hb dX12_may_14 rfl (lv_at hl 3 rfl) ?_
    refine lv_iload hx hb dX12_may_15 (lv_at hl 0 rfl) ?_
    refine lv_ishr hx hb dX12_may_17 ?_
    refine lv_iconst (v := (1 : Int32)) hx hb dX12_may_18 (by decide) ?_
    refine lv_iand hx hb dX12_may_19 ?_
    refine lv_iconst (v := (1 : Int32)) hx hb dX12_may_20 (by decide) ?_
    refine lv_icmp_ne (tgt := 28) hx hb dX12_may_21 (by decide) (fun c6 => ?_) (fun c6 => ?_)
    · replace h := ite_f h c6
      refine lv_iconst (v := (0 : Int32)) hx hb dX12_may_28 (by decide) ?_
      exact tX12_may_29 C v1 v3 y1 (0 : Int32) sg2 lg3 _ _ _ hw (lv_sub hl [1, 2, 4, 0] rfl) h
    · replace h := ite_t h c6
      refine lv_iconst (v := (1 : Int32)) hx hb dX12_may_24 (by decide) ?_
      refine lv_goto (tgt := 29) hx hb dX12_may_25 (by decide) ?_
      exact tX12_may_29 C v1 v3 y1 (1 : Int32) sg2 lg3 _ _ _ hw (lv_sub hl [1, 2, 4, 0] rfl) h
  · replace h := ite_f h c5
    refine lv_iconst (v := (1 : Int32)) hx hb dX12_may_12 (by decide) ?_
    cases h
    exact r_zret C hw rfl (by decide) (by decide) (by decide) dX12_may_13
theorem mX12_may (l : Launch) (D : va_G) (T : Nat → ClassId) (ad : Nat → Nat)  (sz : Nat)   (v1 : Int32) (v2 : Int32) (v3 : Int32) (sg : Sg) (lg : Lg) {ro : Int32} {so : Sg} {lo : Lg} (h : fX12_may v1 v2 v3 sg lg = some (ro, so, lo)) : Met l yX12_may wsX12_may rmX12_may (PreZ ZM D vwCl T (tysM T) ad sg lg false [] [.ref (ad 0), .int v1, .int v2, .int v3] sz) (QI ZM D vwCl T (tysM T) (va_A (zwd ZM T ad sg lg) sz) (fun z => ad = z) ro so lo) 0 0 (va_A (zwd ZM T ad sg lg) sz) :=
  metZ [.ref (ad 0), .int v1, .int v2, .int v3] sz (by decide) rfl (Nat.le_of_ble_eq_true rfl) (fun p e s m below meth c ls C hw hl => tX12_may_0 C v1 v2 v3 sg lg _ _ _ hw hl h)
-- PeckYardModel.mayCome(III)Z
def rmX12_mayCome : Room := { frames := 5, cells := 0, slots := 0, locals := 113 }
theorem kX12_mayCome_f117 : Cond.fieldLink RX12 117 "PeckYardModel" "lower" "I" ∈ wsX12_mayCome := by decide +kernel
theorem kX12_mayCome_iX12 : ∀ w ∈ u_ws RX12 TX12 18, w ∈ wsX12_mayCome := by decide +kernel
theorem kX12_mayCome_f123 : Cond.fieldLink RX12 123 "PeckYardModel" "lawfully" "Z" ∈ wsX12_mayCome := by decide +kernel
theorem kX12_mayCome_f120 : Cond.fieldLink RX12 120 "PeckYardModel" "upper" "I" ∈ wsX12_mayCome := by decide +kernel
def fX12_mayCome_40  (v1 : Int32) (v2 : Int32) (v3 : Int32) (sg : Sg) (lg : Lg) : Option (Int32 × Sg × Lg) :=
  (if (sg 0 7) = 0 then some ((1 : Int32), sg, lg) else bnd3 (fX12_may v1 v2 v3 sg lg) (fun y2 sg3 lg4 => (if y2 = 0 then some ((0 : Int32), sg3, lg4) else some ((1 : Int32), sg3, lg4))))
set_option maxHeartbeats 4000000 in
set_option maxRecDepth 100000 in
theorem tX12_mayCome_40 (C : Cx p s m args meth c cX12_mayCome 4 RX12 wsX12_mayCome (some .boolean) D vwCl (tysM T) A false []) {ro : Int32} {so : Sg} {lo : Lg}   : ∀ (v1 : Int32) (v2 : Int32) (v3 : Int32) (sg : Sg) (lg : Lg), ∀ (H : Heap) (locs : List Loc) (ls : Array Slot), WS ZM D vwCl T ad sg lg A s.heap H locs → lv_has ls 4 [(0, .ref (ad 0)), (1, .int v1), (2, .int v2), (3, .int v3)] → fX12_mayCome_40 v1 v2 v3 sg lg = some (ro, so, lo) → W p l e rmX12_mayCome s m args below meth c H locs 0 0 (MQ below (QI ZM D vwCl T (tysM T) A (fun z => ad = z) ro so lo) args s 0 0 A) (F0 m 40 ls []) := by
  obtain ⟨⟨hx, hb, hml, hown, hts⟩, hr, hlk, hK, hA, hsp⟩ := id C
  intro v1 v2 v3 sg lg H locs ls hw hl h
  unfold fX12_mayCome_40 at h
  refine lv_aload_n hx hb dX12_mayCome_40 rfl (lv_at hl 0 rfl) ?_
  refine r_getI (ci := 12) (C := RX12) (U := TX12) (N := 18) hx hb hts kX12_mayCome_iX12 hown hK hw 0 (by decide) rfl rfl 7 (by decide) rfl (hts _ kX12_mayCome_f123) (fun _ h9 => h9) dX12_mayCome_41 ?_
  refine lv_if_eq (tgt := 57) hx hb dX12_mayCome_44 (by decide) (fun c1 => ?_) (fun c1 => ?_)
  · replace h := ite_t h c1
    refine lv_iconst (v := (1 : Int32)) hx hb dX12_mayCome_57 (by decide) ?_
    refine lv_goto (tgt := 62) hx hb dX12_mayCome_58 (by decide) ?_
    cases h
    exact r_zret C hw rfl (by decide) (by decide) (by decide) dX12_mayCome_62
  · replace h := ite_f h c1
    refine lv_aload_n hx hb dX12_mayCome_47 rfl (lv_at hl 0 rfl) ?_
    refine lv_iload_n hx hb dX12_mayCome_48 rfl (lv_at hl 1 rfl) ?_
    refine lv_iload_n hx hb dX12_mayCome_49 rfl (lv_at hl 2 rfl) ?_
    refine lv_iload_n hx hb dX12_mayCome_50 rfl (lv_at hl 3 rfl) ?_
    obtain ⟨y2, sg3, lg4, hq5, h2⟩ := bnd3_some h
    replace h := h2
    clear h2
    refine r_cVi (As := [.int v1, .int v2, .int v3]) (rest := []) C hw 0 (by decide) (ci := 12) rfl rfl (mX12_may l D T ad  H.size v1 v2 v3 sg lg hq5) (cwV 3 hts gX12_mayCome_X12_may rfl rfl rfl (by decide +kernel) ⟨Nat.le_of_ble_eq_true rfl, Nat.le_of_ble_eq_true rfl⟩) rfl hl.1 rfl (Nat.le_of_ble_eq_true rfl) dX12_mayCome_51 ⟨Nat.le_of_ble_eq_true rfl, Nat.le_of_ble_eq_true rfl⟩ (fun ad' H locs hp hw => ?_)
    subst hp
    refine W.widen (k := 0) (n := 0) (by decide) (by decide) ?_
    refine lv_if_eq (tgt := 61) hx hb dX12_mayCome_54 (by decide) (fun c6 => ?_) (fun c6 => ?_)
    · replace h := ite_t h c6
      refine lv_iconst (v := (0 : Int32)) hx hb dX12_mayCome_61 (by decide) ?_
      cases h
      exact r_zret C hw rfl (by decide) (by decide) (by decide) dX12_mayCome_62
    · replace h := ite_f h c6
      refine lv_iconst (v := (1 : Int32)) hx hb dX12_mayCome_57 (by decide) ?_
      refine lv_goto (tgt := 62) hx hb dX12_mayCome_58 (by decide) ?_
      cases h
      exact r_zret C hw rfl (by decide) (by decide) (by decide) dX12_mayCome_62
def fX12_mayCome  (v1 : Int32) (v2 : Int32) (v3 : Int32) (sg : Sg) (lg : Lg) : Option (Int32 × Sg × Lg) :=
  (if ((v2 >>> (v1 &&& 31)) &&& (1 : Int32)) = (1 : Int32) then some ((0 : Int32), sg, lg) else bnd3 (fX12_counts v1 sg lg) (fun y2 sg3 lg4 => (if y2 = 0 then some ((0 : Int32), sg3, lg4) else (if v1 = (sg3 0 9) then (if ((v2 >>> ((sg3 0 8) &&& 31)) &&& (1 : Int32)) = 0 then some ((0 : Int32), sg3, lg4) else fX12_mayCome_40 v1 v2 v3 sg3 lg4) else fX12_mayCome_40 v1 v2 v3 sg3 lg4))))
set_option maxHeartbeats 4000000 in
set_option maxRecDepth 100000 in
theorem tX12_mayCome_0 (C : Cx p s m args meth c cX12_mayCome 4 RX12 wsX12_mayCome (some .boolean) D vwCl (tysM T) A false []) {ro : Int32} {so : Sg} {lo : Lg}   : ∀ (v1 : Int32) (v2 : Int32) (v3 : Int32) (sg : Sg) (lg : Lg), ∀ (H : Heap) (locs : List Loc) (ls : Array Slot), WS ZM D vwCl T ad sg lg A s.heap H locs → lv_has ls 4 [(0, .ref (ad 0)), (1, .int v1), (2, .int v2), (3, .int v3)] → fX12_mayCome v1 v2 v3 sg lg = some (ro, so, lo) → W p l e rmX12_mayCome s m args below meth c H locs 0 0 (MQ below (QI ZM D vwCl T (tysM T) A (fun z => ad = z) ro so lo) args s 0 0 A) (F0 m 0 ls []) := by
  obtain ⟨⟨hx, hb, hml, hown, hts⟩, hr, hlk, hK, hA, hsp⟩ := id C
  intro v1 v2 v3 sg lg H locs ls hw hl h
  unfold fX12_mayCome at h
  refine lv_iload_n hx hb dX12_mayCome_0 rfl (lv_at hl 2 rfl) ?_
  refine lv_iload_n hx hb dX12_mayCome_1 rfl (lv_at hl 1 rfl) ?_
  refine lv_ishr hx hb dX12_mayCome_2 ?_
  refine lv_iconst (v := (1 : Int32)) hx hb dX12_mayCome_3 (by decide) ?_
  refine lv_iand hx hb dX12_mayCome_4 ?_
  refine lv_iconst (v := (1 : Int32)) hx hb dX12_mayCome_5 (by decide) ?_
  refine lv_icmp_eq (tgt := 17) hx hb dX12_mayCome_6 (by decide) (fun c1 => ?_) (fun c1 => ?_)
  · replace h := ite_t h c1
    refine lv_iconst (v := (0 : Int32)) hx hb dX12_mayCome_17 (by decide) ?_
    cases h
    exact r_zret C hw rfl (by decide) (by decide) (by decide) dX12_mayCome_18
  · replace h := ite_f h c1
    refine lv_aload_n hx hb dX12_mayCome_9 rfl (lv_at hl 0 rfl) ?_
    refine lv_iload_n hx hb dX12_mayCome_10 rfl (lv_at hl 1 rfl) ?_
    obtain ⟨y2, sg3, lg4, hq5, h2⟩ := bnd3_some h
    replace h := h2
    clear h2
    refine r_cVi (As := [.int v1]) (rest := []) C hw 0 (by decide) (ci := 12) rfl rfl (mX12_counts l D T ad  H.size v1 sg lg hq5) (cwV 1 hts gX12_mayCome_X12_counts rfl rfl rfl (by decide +kernel) ⟨Nat.le_of_ble_eq_true rfl, Nat.le_of_ble_eq_true rfl⟩) rfl hl.1 rfl (Nat.le_of_ble_eq_true rfl) dX12_mayCome_11 ⟨Nat.le_of_ble_eq_true rfl, Nat.le_of_ble_eq_true rfl⟩ (fun ad' H locs hp hw => ?_)
    subst hp
    refine W.widen (k := 0) (n := 0) (by decide) (by decide) ?_
    refine lv_if_ne (tgt := 19) hx hb dX12_mayCome_14 (by decide) (fun c6 => ?_) (fun c6 => ?_)
    · replace h := ite_f h c6
      refine lv_iload_n hx hb dX12_mayCome_19 rfl (lv_at hl 1 rfl) ?_
      refine lv_aload_n hx hb dX12_mayCome_20 rfl (lv_at hl 0 rfl) ?_
      refine r_getI (ci := 12) (C := RX12) (U := TX12) (N := 18) hx hb hts kX12_mayCome_iX12 hown hK hw 0 (by decide) rfl rfl 9 (by decide) rfl (hts _ kX12_mayCome_f117) (fun _ h9 => h9) dX12_mayCome_21 ?_
      refine lv_icmp_ne (tgt := 40) hx hb dX12_mayCome_24 (by decide) (fun c7 => ?_) (fun c7 => ?_)
      · replace h := ite_f h c7
        exact tX12_mayCome_40 C v1 v2 v3 sg3 lg4 _ _ _ hw (lv_sub hl [0, 1, 2, 3] rfl) h
      · replace h := ite_t h c7
        refine lv_iload_n hx hb dX12_mayCome_27 rfl (lv_at hl 2 rfl) ?_
        refine lv_aload_n hx hb dX12_mayCome_28 rfl (lv_at hl 0 rfl) ?_
        refine r_getI (ci := 12) (C := RX12) (U := TX12) (N := 18) hx hb hts kX12_mayCome_iX12 hown hK hw 0 (by decide) rfl rfl 8 (by decide) rfl (hts _ kX12_mayCome_f120) (fun _ h9 => h9) dX12_mayCome_29 ?_
        refine lv_ishr hx hb dX12_mayCome_32 ?_
        refine lv_iconst (v := (1 : Int32)) hx hb dX12_mayCome_33 (by decide) ?_
        refine lv_iand hx hb dX12_mayCome_34 ?_
        refine lv_if_ne (tgt := 40) hx hb dX12_mayCome_35 (by decide) (fun c8 => ?_) (fun c8 => ?_)
        · replace h := ite_f h c8
          exact tX12_mayCome_40 C v1 v2 v3 sg3 lg4 _ _ _ hw (lv_sub hl [0, 1, 2, 3] rfl) h
        · replace h := ite_t h c8
          refine lv_iconst (v := (0 : Int32)) hx hb dX12_mayCome_38 (by decide) ?_
          cases h
          exact r_zret C hw rfl (by decide) (by decide) (by decide) dX12_mayCome_39
    · replace h := ite_t h c6
      refine lv_iconst (v := (0 : Int32)) hx hb dX12_mayCome_17 (by decide) ?_
      cases h
      exact r_zret C hw rfl (by decide) (by decide) (by decide) dX12_mayCome_18
theorem mX12_mayCome (l : Launch) (D : va_G) (T : Nat → ClassId) (ad : Nat → Nat)  (sz : Nat)   (v1 : Int32) (v2 : Int32) (v3 : Int32) (sg : Sg) (lg : Lg) {ro : Int32} {so : Sg} {lo : Lg} (h : fX12_mayCome v1 v2 v3 sg lg = some (ro, so, lo)) : Met l yX12_mayCome wsX12_mayCome rmX12_mayCome (PreZ ZM D vwCl T (tysM T) ad sg lg false [] [.ref (ad 0), .int v1, .int v2, .int v3] sz) (QI ZM D vwCl T (tysM T) (va_A (zwd ZM T ad sg lg) sz) (fun z => ad = z) ro so lo) 0 0 (va_A (zwd ZM T ad sg lg) sz) :=
  metZ [.ref (ad 0), .int v1, .int v2, .int v3] sz (by decide) rfl (Nat.le_of_ble_eq_true rfl) (fun p e s m below meth c ls C hw hl => tX12_mayCome_0 C v1 v2 v3 sg lg _ _ _ hw hl h)
-- PeckYardModel.cost(II)J
def rmX12_cost : Room := { frames := 1, cells := 0, slots := 0, locals := 22 }
def fX12_cost_35 (r5 : (Int32 × Int32 × Int64 × Int32 × Sg × Lg) → Option (Int64 × Sg × Lg)) (v1 : Int32) (v2 : Int32) (v5 : Int32) (w0 : Int64) (w1 : Int64) (sg : Sg) (lg : Lg) : Option (Int64 × Sg × Lg) :=
  lt (w1 + w0) (fun x1 => lt (v5 + (1 : Int32)) (fun x2 => r5 (v1, v2, x1, x2, sg, lg)))
set_option maxHeartbeats 4000000 in
set_option maxRecDepth 100000 in
theorem tX12_cost_35 (C : Cx p s m args meth c cX12_cost 6 RX12 wsX12_cost (some .long) D vwCl (tysM T) A false []) {ro : Int64} {so : Sg} {lo : Lg} {r5 : (Int32 × Int32 × Int64 × Int32 × Sg × Lg) → Option (Int64 × Sg × Lg)} (hr5 : ∀ (v1 : Int32) (v2 : Int32) (v3 : Int64) (v5 : Int32) (sg : Sg) (lg : Lg), r5 (v1, v2, v3, v5, sg, lg) = some (ro, so, lo) → ∀ (H : Heap) (locs : List Loc) (ls : Array Slot), WS ZM D vwCl T ad sg lg A s.heap H locs → lv_has ls 6 [(0, .ref (ad 0)), (1, .int v1), (2, .int v2), (3, .long v3), (5, .int v5)] → W p l e rmX12_cost s m args below meth c H locs 0 0 (MQ below (QL ZM D vwCl T (tysM T) A (fun z => ad = z) ro so lo) args s 0 0 A) (F0 m 5 ls [])) : ∀ (v1 : Int32) (v2 : Int32) (v5 : Int32) (w0 : Int64) (w1 : Int64) (sg : Sg) (lg : Lg), ∀ (H : Heap) (locs : List Loc) (ls : Array Slot), WS ZM D vwCl T ad sg lg A s.heap H locs → lv_has ls 6 [(0, .ref (ad 0)), (1, .int v1), (2, .int v2), (5, .int v5)] → fX12_cost_35 r5 v1 v2 v5 w0 w1 sg lg = some (ro, so, lo) → W p l e rmX12_cost s m args below meth c H locs 0 0 (MQ below (QL ZM D vwCl T (tysM T) A (fun z => ad = z) ro so lo) args s 0 0 A) (F0 m 35 ls [.long w0, .long w1]) := by
  obtain ⟨⟨hx, hb, hml, hown, hts⟩, hr, hlk, hK, hA, hsp⟩ := id C
  intro v1 v2 v5 w0 w1 sg lg H locs ls hw hl h
  unfold fX12_cost_35 at h
  refine lv_ladd hx hb dX12_cost_35 ?_
  refine lv_topl (fun x1 ex1 => ?_)
  replace h := lt_get h x1 ex1
  refine lv_lstore_n (lv' := [(3, .long x1), (0, .ref (ad 0)), (1, .int v1), (2, .int v2), (5, .int v5)]) hx hb dX12_cost_36 rfl hl (by decide) rfl (fun ls hl => ?_)
  obtain ⟨x2, ex2⟩ : ∃ z : Int32, z = (v5 + (1 : Int32)) := ⟨_, rfl⟩
  replace h := lt_get h x2 ex2
  refine lv_iinc (v := x2) (lv' := [(5, .int x2), (3, .long x1), (0, .ref (ad 0)), (1, .int v1), (2, .int v2)]) hx hb dX12_cost_37 hl (k := 4) rfl (by rw [ex2]; rfl) (by decide) rfl (fun ls hl => ?_)
  refine lv_goto (tgt := 5) hx hb dX12_cost_40 (by decide) ?_
  exact hr5 v1 v2 x1 x2 sg lg h _ _ _ hw (lv_sub hl [2, 3, 4, 1, 0] rfl)
def fX12_cost_5 (r5 : (Int32 × Int32 × Int64 × Int32 × Sg × Lg) → Option (Int64 × Sg × Lg)) (v1 : Int32) (v2 : Int32) (v3 : Int64) (v5 : Int32) (sg : Sg) (lg : Lg) : Option (Int64 × Sg × Lg) :=
  (if (12 : Int32) ≤ v5 then some (v3, sg, lg) else (if ((v2 >>> (v5 &&& 31)) &&& (1 : Int32)) = (1 : Int32) then bnd3 (fX12_peckOf v1 v5 sg lg) (fun y3 sg4 lg5 => fX12_cost_35 r5 v1 v2 v5 y3.toInt64 v3 sg4 lg5) else fX12_cost_35 r5 v1 v2 v5 (0 : Int64) v3 sg lg))
set_option maxHeartbeats 4000000 in
set_option maxRecDepth 100000 in
theorem tX12_cost_5 (C : Cx p s m args meth c cX12_cost 6 RX12 wsX12_cost (some .long) D vwCl (tysM T) A false []) {ro : Int64} {so : Sg} {lo : Lg} {r5 : (Int32 × Int32 × Int64 × Int32 × Sg × Lg) → Option (Int64 × Sg × Lg)} (hr5 : ∀ (v1 : Int32) (v2 : Int32) (v3 : Int64) (v5 : Int32) (sg : Sg) (lg : Lg), r5 (v1, v2, v3, v5, sg, lg) = some (ro, so, lo) → ∀ (H : Heap) (locs : List Loc) (ls : Array Slot), WS ZM D vwCl T ad sg lg A s.heap H locs → lv_has ls 6 [(0, .ref (ad 0)), (1, .int v1), (2, .int v2), (3, .long v3), (5, .int v5)] → W p l e rmX12_cost s m args below meth c H locs 0 0 (MQ below (QL ZM D vwCl T (tysM T) A (fun z => ad = z) ro so lo) args s 0 0 A) (F0 m 5 ls [])) : ∀ (v1 : Int32) (v2 : Int32) (v3 : Int64) (v5 : Int32) (sg : Sg) (lg : Lg), ∀ (H : Heap) (locs : List Loc) (ls : Array Slot), WS ZM D vwCl T ad sg lg A s.heap H locs → lv_has ls 6 [(0, .ref (ad 0)), (1, .int v1), (2, .int v2), (3, .long v3), (5, .int v5)] → fX12_cost_5 r5 v1 v2 v3 v5 sg lg = some (ro, so, lo) → W p l e rmX12_cost s m args below meth c H locs 0 0 (MQ below (QL ZM D vwCl T (tysM T) A (fun z => ad = z) ro so lo) args s 0 0 A) (F0 m 5 ls []) := by
  obtain ⟨⟨hx, hb, hml, hown, hts⟩, hr, hlk, hK, hA, hsp⟩ := id C
  intro v1 v2 v3 v5 sg lg H locs ls hw hl h
  unfold fX12_cost_5 at h
  refine lv_iload hx hb dX12_cost_5 (lv_at hl 4 rfl) ?_
  refine lv_bipush (v := (12 : Int32)) hx hb dX12_cost_7 (by decide) ?_
  refine lv_icmp_ge (tgt := 43) hx hb dX12_cost_9 (by decide) (fun c1 => ?_) (fun c1 => ?_)
  · replace h := ite_t h c1
    refine lv_lload_n hx hb dX12_cost_43 rfl (lv_at hl 3 rfl) ?_
    cases h
    exact r_lret C hw rfl (by decide) (by decide) dX12_cost_44
  · replace h := ite_f h c1
    refine lv_lload_n hx hb dX12_cost_12 rfl (lv_at hl 3 rfl) ?_
    refine lv_iload_n hx hb dX12_cost_13 rfl (lv_at hl 2 rfl) ?_
    refine lv_iload hx hb dX12_cost_14 (lv_at hl 4 rfl) ?_
    refine lv_ishr hx hb dX12_cost_16 ?_
    refine lv_iconst (v := (1 : Int32)) hx hb dX12_cost_17 (by decide) ?_
    refine lv_iand hx hb dX12_cost_18 ?_
    refine lv_iconst (v := (1 : Int32)) hx hb dX12_cost_19 (by decide) ?_
    refine lv_icmp_ne (tgt := 34) hx hb dX12_cost_20 (by decide) (fun c2 => ?_) (fun c2 => ?_)
    · replace h := ite_f h c2
      refine lv_lconst (v := (0 : Int64)) hx hb dX12_cost_34 (by decide) ?_
      exact tX12_cost_35 C hr5 v1 v2 v5 (0 : Int64) v3 sg lg _ _ _ hw (lv_sub hl [0, 1, 2, 4] rfl) h
    · replace h := ite_t h c2
      refine lv_aload_n hx hb dX12_cost_23 rfl (lv_at hl 0 rfl) ?_
      refine lv_iload_n hx hb dX12_cost_24 rfl (lv_at hl 1 rfl) ?_
      refine lv_iload hx hb dX12_cost_25 (lv_at hl 4 rfl) ?_
      obtain ⟨y3, sg4, lg5, hq6, h2⟩ := bnd3_some h
      replace h := h2
      clear h2
      refine r_cVi (As := [.int v1, .int v5]) (rest := [.long v3]) C hw 0 (by decide) (ci := 12) rfl rfl (mX12_peckOf l D T ad  H.size v1 v5 sg lg hq6) (cwV 2 hts gX12_cost_X12_peckOf rfl rfl rfl (by decide +kernel) ⟨Nat.le_of_ble_eq_true rfl, Nat.le_of_ble_eq_true rfl⟩) rfl hl.1 rfl (Nat.le_of_ble_eq_true rfl) dX12_cost_27 ⟨Nat.le_of_ble_eq_true rfl, Nat.le_of_ble_eq_true rfl⟩ (fun ad' H locs hp hw => ?_)
      subst hp
      refine W.widen (k := 0) (n := 0) (by decide) (by decide) ?_
      refine lv_i2l (v := y3.toInt64) hx hb dX12_cost_30 rfl ?_
      refine lv_goto (tgt := 35) hx hb dX12_cost_31 (by decide) ?_
      exact tX12_cost_35 C hr5 v1 v2 v5 y3.toInt64 v3 sg4 lg5 _ _ _ hw (lv_sub hl [0, 1, 2, 4] rfl) h
def LX12_cost_5  : (Int32 × Int32 × Int64 × Int32 × Sg × Lg) → Option (Int64 × Sg × Lg) := loop (fun rec z => fX12_cost_5 rec z.1 z.2.1 z.2.2.1 z.2.2.2.1 z.2.2.2.2.1 z.2.2.2.2.2)
theorem TX12_cost_5 (C : Cx p s m args meth c cX12_cost 6 RX12 wsX12_cost (some .long) D vwCl (tysM T) A false []) {ro : Int64} {so : Sg} {lo : Lg}   : ∀ (v1 : Int32) (v2 : Int32) (v3 : Int64) (v5 : Int32) (sg : Sg) (lg : Lg), LX12_cost_5 (v1, v2, v3, v5, sg, lg) = some (ro, so, lo) → ∀ (H : Heap) (locs : List Loc) (ls : Array Slot), WS ZM D vwCl T ad sg lg A s.heap H locs → lv_has ls 6 [(0, .ref (ad 0)), (1, .int v1), (2, .int v2), (3, .long v3), (5, .int v5)] → W p l e rmX12_cost s m args below meth c H locs 0 0 (MQ below (QL ZM D vwCl T (tysM T) A (fun z => ad = z) ro so lo) args s 0 0 A) (F0 m 5 ls []) := by
  have key : ∀ z : (Int32 × Int32 × Int64 × Int32 × Sg × Lg), LX12_cost_5  z = some (ro, so, lo) → ∀ (H : Heap) (locs : List Loc) (ls : Array Slot), WS ZM D vwCl T ad z.2.2.2.2.1 z.2.2.2.2.2 A s.heap H locs → lv_has ls 6 [(0, .ref (ad 0)), (1, .int z.1), (2, .int z.2.1), (3, .long z.2.2.1), (5, .int z.2.2.2.1)] → W p l e rmX12_cost s m args below meth c H locs 0 0 (MQ below (QL ZM D vwCl T (tysM T) A (fun z => ad = z) ro so lo) args s 0 0 A) (F0 m 5 ls []) := by
    intro z h
    unfold LX12_cost_5 at h
    exact loop_ind (fun rec z => fX12_cost_5 rec z.1 z.2.1 z.2.2.1 z.2.2.2.1 z.2.2.2.2.1 z.2.2.2.2.2) (y := (ro, so, lo)) (P := fun z => ∀ (H : Heap) (locs : List Loc) (ls : Array Slot), WS ZM D vwCl T ad z.2.2.2.2.1 z.2.2.2.2.2 A s.heap H locs → lv_has ls 6 [(0, .ref (ad 0)), (1, .int z.1), (2, .int z.2.1), (3, .long z.2.2.1), (5, .int z.2.2.2.1)] → W p l e rmX12_cost s m args below meth c H locs 0 0 (MQ below (QL ZM D vwCl T (tysM T) A (fun z => ad = z) ro so lo) args s 0 0 A) (F0 m 5 ls [])) (fun rec hrec z h H locs ls hw hl => tX12_cost_5 C  (fun v1 v2 v3 v5 sg lg => hrec (v1, v2, v3, v5, sg, lg)) z.1 z.2.1 z.2.2.1 z.2.2.2.1 z.2.2.2.2.1 z.2.2.2.2.2 H locs ls hw hl h) z h
  exact fun v1 v2 v3 v5 sg lg => key (v1, v2, v3, v5, sg, lg)
def fX12_cost  (v1 : Int32) (v2 : Int32) (sg : Sg) (lg : Lg) : Option (Int64 × Sg × Lg) :=
  LX12_cost_5 (v1, v2, (0 : Int64), (0 : Int32), sg, lg)
set_option maxHeartbeats 4000000 in
set_option maxRecDepth 100000 in
theorem tX12_cost_0 (C : Cx p s m args meth c cX12_cost 6 RX12 wsX12_cost (some .long) D vwCl (tysM T) A false []) {ro : Int64} {so : Sg} {lo : Lg}   : ∀ (v1 : Int32) (v2 : Int32) (sg : Sg) (lg : Lg), ∀ (H : Heap) (locs : List Loc) (ls : Array Slot), WS ZM D vwCl T ad sg lg A s.heap H locs → lv_has ls 6 [(0, .ref (ad 0)), (1, .int v1), (2, .int v2)] → fX12_cost v1 v2 sg lg = some (ro, so, lo) → W p l e rmX12_cost s m args below meth c H locs 0 0 (MQ below (QL ZM D vwCl T (tysM T) A (fun z => ad = z) ro so lo) args s 0 0 A) (F0 m 0 ls []) := by
  obtain ⟨⟨hx, hb, hml, hown, hts⟩, hr, hlk, hK, hA, hsp⟩ := id C
  intro v1 v2 sg lg H locs ls hw hl h
  unfold fX12_cost at h
  refine lv_lconst (v := (0 : Int64)) hx hb dX12_cost_0 (by decide) ?_
  refine lv_lstore_n (lv' := [(3, .long (0 : Int64)), (0, .ref (ad 0)), (1, .int v1), (2, .int v2)]) hx hb dX12_cost_1 rfl hl (by decide) rfl (fun ls hl => ?_)
  refine lv_iconst (v := (0 : Int32)) hx hb dX12_cost_2 (by decide) ?_
  refine lv_istore (lv' := [(5, .int (0 : Int32)), (3, .long (0 : Int64)), (0, .ref (ad 0)), (1, .int v1), (2, .int v2)]) hx hb dX12_cost_3 hl (by decide) rfl (fun ls hl => ?_)
  exact TX12_cost_5 C v1 v2 (0 : Int64) (0 : Int32) sg lg h _ _ _ hw (lv_sub hl [2, 3, 4, 1, 0] rfl)
theorem mX12_cost (l : Launch) (D : va_G) (T : Nat → ClassId) (ad : Nat → Nat)  (sz : Nat)   (v1 : Int32) (v2 : Int32) (sg : Sg) (lg : Lg) {ro : Int64} {so : Sg} {lo : Lg} (h : fX12_cost v1 v2 sg lg = some (ro, so, lo)) : Met l yX12_cost wsX12_cost rmX12_cost (PreZ ZM D vwCl T (tysM T) ad sg lg false [] [.ref (ad 0), .int v1, .int v2] sz) (QL ZM D vwCl T (tysM T) (va_A (zwd ZM T ad sg lg) sz) (fun z => ad = z) ro so lo) 0 0 (va_A (zwd ZM T ad sg lg) sz) :=
  metZ [.ref (ad 0), .int v1, .int v2] sz (by decide) rfl (Nat.le_of_ble_eq_true rfl) (fun p e s m below meth c ls C hw hl => tX12_cost_0 C v1 v2 sg lg _ _ _ hw hl h)
-- PeckYardModel.fillState(II)V
def rmX12_fillState : Room := { frames := 6, cells := 0, slots := 0, locals := 136 }
theorem kX12_fillState_f20 : Cond.fieldLink RX12 20 "PeckYardModel" "leastOf" "[J" ∈ wsX12_fillState := by decide +kernel
theorem kX12_fillState_iX12 : ∀ w ∈ u_ws RX12 TX12 18, w ∈ wsX12_fillState := by decide +kernel
theorem kX12_fillState_c131 : Cond.constantLong RX12 131 (1000000000000000) ∈ wsX12_fillState := by decide +kernel
theorem kX12_fillState_f24 : Cond.fieldLink RX12 24 "PeckYardModel" "waysOf" "[J" ∈ wsX12_fillState := by decide +kernel
def fX12_fillState_165 (r26 : (Int32 × Int32 × Int32 × Int32 × Sg × Lg) → Option (Sg × Lg)) (v1 : Int32) (v2 : Int32) (v3 : Int32) (v4 : Int32) (sg : Sg) (lg : Lg) : Option (Sg × Lg) :=
  lt (v4 + (1 : Int32)) (fun x1 => r26 (v1, v2, v3, x1, sg, lg))
set_option maxHeartbeats 4000000 in
set_option maxRecDepth 100000 in
theorem tX12_fillState_165 (C : Cx p s m args meth c cX12_fillState 8 RX12 wsX12_fillState none D vwCl (tysM T) A false []) {so : Sg} {lo : Lg} {r26 : (Int32 × Int32 × Int32 × Int32 × Sg × Lg) → Option (Sg × Lg)} (hr26 : ∀ (v1 : Int32) (v2 : Int32) (v3 : Int32) (v4 : Int32) (sg : Sg) (lg : Lg), r26 (v1, v2, v3, v4, sg, lg) = some (so, lo) → ∀ (H : Heap) (locs : List Loc) (ls : Array Slot), WS ZM D vwCl T ad sg lg A s.heap H locs → lv_has ls 8 [(0, .ref (ad 0)), (1, .int v1), (2, .int v2), (3, .int v3), (4, .int v4)] → W p l e rmX12_fillState s m args below meth c H locs 0 0 (MQ below (QV ZM D vwCl T (tysM T) A (fun z => ad = z) so lo) args s 0 0 A) (F0 m 26 ls [])) : ∀ (v1 : Int32) (v2 : Int32) (v3 : Int32) (v4 : Int32) (sg : Sg) (lg : Lg), ∀ (H : Heap) (locs : List Loc) (ls : Array Slot), WS ZM D vwCl T ad sg lg A s.heap H locs → lv_has ls 8 [(0, .ref (ad 0)), (1, .int v1), (2, .int v2), (3, .int v3), (4, .int v4)] → fX12_fillState_165 r26 v1 v2 v3 v4 sg lg = some (so, lo) → W p l e rmX12_fillState s m args below meth c H locs 0 0 (MQ below (QV ZM D vwCl T (tysM T) A (fun z => ad = z) so lo) args s 0 0 A) (F0 m 165 ls []) := by
  obtain ⟨⟨hx, hb, hml, hown, hts⟩, hr, hlk, hK, hA, hsp⟩ := id C
  intro v1 v2 v3 v4 sg lg H locs ls hw hl h
  unfold fX12_fillState_165 at h
  obtain ⟨x1, ex1⟩ : ∃ z : Int32, z = (v4 + (1 : Int32)) := ⟨_, rfl⟩
  replace h := lt_get h x1 ex1
  refine lv_iinc (v := x1) (lv' := [(4, .int x1), (0, .ref (ad 0)), (1, .int v1), (2, .int v2), (3, .int v3)]) hx hb dX12_fillState_165 hl (k := 4) rfl (by rw [ex1]; rfl) (by decide) rfl (fun ls hl => ?_)
  refine lv_goto (tgt := 26) hx hb dX12_fillState_168 (by decide) ?_
  exact hr26 v1 v2 v3 x1 sg lg h _ _ _ hw (lv_sub hl [1, 2, 3, 4, 0] rfl)
def fX12_fillState_163 (r26 : (Int32 × Int32 × Int32 × Int32 × Sg × Lg) → Option (Sg × Lg)) (v1 : Int32) (v2 : Int32) (v3 : Int32) (v4 : Int32) (w0 : Int64) (w1 : Int64) (w2 : Int32) (sg : Sg) (lg : Lg) : Option (Sg × Lg) :=
  lt (w1 + w0) (fun x1 => gin w2 53248 (lt (up2L lg 5 w2.toNatClampNeg x1) (fun lg3 => fX12_fillState_165 r26 v1 v2 v3 v4 sg lg3)))
set_option maxHeartbeats 4000000 in
set_option maxRecDepth 100000 in
theorem tX12_fillState_163 (C : Cx p s m args meth c cX12_fillState 8 RX12 wsX12_fillState none D vwCl (tysM T) A false []) {so : Sg} {lo : Lg} {r26 : (Int32 × Int32 × Int32 × Int32 × Sg × Lg) → Option (Sg × Lg)} (hr26 : ∀ (v1 : Int32) (v2 : Int32) (v3 : Int32) (v4 : Int32) (sg : Sg) (lg : Lg), r26 (v1, v2, v3, v4, sg, lg) = some (so, lo) → ∀ (H : Heap) (locs : List Loc) (ls : Array Slot), WS ZM D vwCl T ad sg lg A s.heap H locs → lv_has ls 8 [(0, .ref (ad 0)), (1, .int v1), (2, .int v2), (3, .int v3), (4, .int v4)] → W p l e rmX12_fillState s m args below meth c H locs 0 0 (MQ below (QV ZM D vwCl T (tysM T) A (fun z => ad = z) so lo) args s 0 0 A) (F0 m 26 ls [])) : ∀ (v1 : Int32) (v2 : Int32) (v3 : Int32) (v4 : Int32) (w0 : Int64) (w1 : Int64) (w2 : Int32) (sg : Sg) (lg : Lg), ∀ (H : Heap) (locs : List Loc) (ls : Array Slot), WS ZM D vwCl T ad sg lg A s.heap H locs → lv_has ls 8 [(0, .ref (ad 0)), (1, .int v1), (2, .int v2), (3, .int v3), (4, .int v4)] → fX12_fillState_163 r26 v1 v2 v3 v4 w0 w1 w2 sg lg = some (so, lo) → W p l e rmX12_fillState s m args below meth c H locs 0 0 (MQ below (QV ZM D vwCl T (tysM T) A (fun z => ad = z) so lo) args s 0 0 A) (F0 m 163 ls [.long w0, .long w1, .int w2, .ref (ad 5)]) := by
  obtain ⟨⟨hx, hb, hml, hown, hts⟩, hr, hlk, hK, hA, hsp⟩ := id C
  intro v1 v2 v3 v4 w0 w1 w2 sg lg H locs ls hw hl h
  unfold fX12_fillState_163 at h
  refine lv_ladd hx hb dX12_fillState_163 ?_
  refine lv_topl (fun x1 ex1 => ?_)
  replace h := lt_get h x1 ex1
  have hi2 := (gin_some h).1
  replace h := (gin_some h).2
  refine r_last hx hb hK hw 5 2 53248 (by decide) rfl rfl rfl hi2 dX12_fillState_164 (fun H locs lg3 elg3 hw => ?_)
  replace h := lt_get h lg3 elg3
  exact tX12_fillState_165 C hr26 v1 v2 v3 v4 sg lg3 _ _ _ hw (lv_sub hl [0, 1, 2, 3, 4] rfl) h
def fX12_fillState_162 (r26 : (Int32 × Int32 × Int32 × Int32 × Sg × Lg) → Option (Sg × Lg)) (v1 : Int32) (v2 : Int32) (v3 : Int32) (v4 : Int32) (w0 : Int64) (w1 : Int32) (sg : Sg) (lg : Lg) : Option (Sg × Lg) :=
  fX12_fillState_163 r26 v1 v2 v3 v4 (0 : Int64) w0 w1 sg lg
set_option maxHeartbeats 4000000 in
set_option maxRecDepth 100000 in
theorem tX12_fillState_162 (C : Cx p s m args meth c cX12_fillState 8 RX12 wsX12_fillState none D vwCl (tysM T) A false []) {so : Sg} {lo : Lg} {r26 : (Int32 × Int32 × Int32 × Int32 × Sg × Lg) → Option (Sg × Lg)} (hr26 : ∀ (v1 : Int32) (v2 : Int32) (v3 : Int32) (v4 : Int32) (sg : Sg) (lg : Lg), r26 (v1, v2, v3, v4, sg, lg) = some (so, lo) → ∀ (H : Heap) (locs : List Loc) (ls : Array Slot), WS ZM D vwCl T ad sg lg A s.heap H locs → lv_has ls 8 [(0, .ref (ad 0)), (1, .int v1), (2, .int v2), (3, .int v3), (4, .int v4)] → W p l e rmX12_fillState s m args below meth c H locs 0 0 (MQ below (QV ZM D vwCl T (tysM T) A (fun z => ad = z) so lo) args s 0 0 A) (F0 m 26 ls [])) : ∀ (v1 : Int32) (v2 : Int32) (v3 : Int32) (v4 : Int32) (w0 : Int64) (w1 : Int32) (sg : Sg) (lg : Lg), ∀ (H : Heap) (locs : List Loc) (ls : Array Slot), WS ZM D vwCl T ad sg lg A s.heap H locs → lv_has ls 8 [(0, .ref (ad 0)), (1, .int v1), (2, .int v2), (3, .int v3), (4, .int v4)] → fX12_fillState_162 r26 v1 v2 v3 v4 w0 w1 sg lg = some (so, lo) → W p l e rmX12_fillState s m args below meth c H locs 0 0 (MQ below (QV ZM D vwCl T (tysM T) A (fun z => ad = z) so lo) args s 0 0 A) (F0 m 162 ls [.long w0, .int w1, .ref (ad 5)]) := by
  obtain ⟨⟨hx, hb, hml, hown, hts⟩, hr, hlk, hK, hA, hsp⟩ := id C
  intro v1 v2 v3 v4 w0 w1 sg lg H locs ls hw hl h
  unfold fX12_fillState_162 at h
  refine lv_lconst (v := (0 : Int64)) hx hb dX12_fillState_162 (by decide) ?_
  exact tX12_fillState_163 C hr26 v1 v2 v3 v4 (0 : Int64) w0 w1 sg lg _ _ _ hw (lv_sub hl [0, 1, 2, 3, 4] rfl) h
def fX12_fillState_124 (r26 : (Int32 × Int32 × Int32 × Int32 × Sg × Lg) → Option (Sg × Lg)) (v1 : Int32) (v2 : Int32) (v3 : Int32) (v4 : Int32) (v5 : Int32) (v6 : Int64) (sg : Sg) (lg : Lg) : Option (Sg × Lg) :=
  gin v3 53248 ((if (1000000000000000 : Int64) ≤ v6 then fX12_fillState_162 r26 v1 v2 v3 v4 (lg 5 v3.toNatClampNeg) v3 sg lg else gin v3 53248 ((if v6 = (lg 4 v3.toNatClampNeg) then gin v5 53248 (fX12_fillState_163 r26 v1 v2 v3 v4 (lg 5 v5.toNatClampNeg) (lg 5 v3.toNatClampNeg) v3 sg lg) else fX12_fillState_162 r26 v1 v2 v3 v4 (lg 5 v3.toNatClampNeg) v3 sg lg))))
set_option maxHeartbeats 4000000 in
set_option maxRecDepth 100000 in
theorem tX12_fillState_124 (C : Cx p s m args meth c cX12_fillState 8 RX12 wsX12_fillState none D vwCl (tysM T) A false []) {so : Sg} {lo : Lg} {r26 : (Int32 × Int32 × Int32 × Int32 × Sg × Lg) → Option (Sg × Lg)} (hr26 : ∀ (v1 : Int32) (v2 : Int32) (v3 : Int32) (v4 : Int32) (sg : Sg) (lg : Lg), r26 (v1, v2, v3, v4, sg, lg) = some (so, lo) → ∀ (H : Heap) (locs : List Loc) (ls : Array Slot), WS ZM D vwCl T ad sg lg A s.heap H locs → lv_has ls 8 [(0, .ref (ad 0)), (1, .int v1), (2, .int v2), (3, .int v3), (4, .int v4)] → W p l e rmX12_fillState s m args below meth c H locs 0 0 (MQ below (QV ZM D vwCl T (tysM T) A (fun z => ad = z) so lo) args s 0 0 A) (F0 m 26 ls [])) : ∀ (v1 : Int32) (v2 : Int32) (v3 : Int32) (v4 : Int32) (v5 : Int32) (v6 : Int64) (sg : Sg) (lg : Lg), ∀ (H : Heap) (locs : List Loc) (ls : Array Slot), WS ZM D vwCl T ad sg lg A s.heap H locs → lv_has ls 8 [(0, .ref (ad 0)), (1, .int v1), (2, .int v2), (3, .int v3), (4, .int v4), (5, .int v5), (6, .long v6)] → fX12_fillState_124 r26 v1 v2 v3 v4 v5 v6 sg lg = some (so, lo) → W p l e rmX12_fillState s m args below meth c H locs 0 0 (MQ below (QV ZM D vwCl T (tysM T) A (fun z => ad = z) so lo) args s 0 0 A) (F0 m 124 ls []) := by
  obtain ⟨⟨hx, hb, hml, hown, hts⟩, hr, hlk, hK, hA, hsp⟩ := id C
  intro v1 v2 v3 v4 v5 v6 sg lg H locs ls hw hl h
  unfold fX12_fillState_124 at h
  refine lv_aload_n hx hb dX12_fillState_124 rfl (lv_at hl 0 rfl) ?_
  refine r_getR (ci := 12) (C := RX12) (U := TX12) (N := 18) hx hb hts kX12_fillState_iX12 hown hK hw 0 (by decide) rfl rfl 6 (by decide) 5 rfl (hts _ kX12_fillState_f24) (fun _ h9 => h9) dX12_fillState_125 ?_
  refine lv_iload_n hx hb dX12_fillState_128 rfl (lv_at hl 3 rfl) ?_
  refine lv_dup2_11 hx hb dX12_fillState_129 rfl rfl ?_
  have hi1 := (gin_some h).1
  replace h := (gin_some h).2
  refine r_lald hx hb hK hw 5 2 53248 (by decide) rfl rfl rfl hi1 dX12_fillState_130 ?_
  refine lv_lload hx hb dX12_fillState_131 (lv_at hl 6 rfl) ?_
  refine lv_ldc2 hx hb hown (hts _ kX12_fillState_c131) dX12_fillState_133 ?_
  refine W.lcmp hx hb dX12_fillState_136 ?_
  refine lv_if_ge (tgt := 162) hx hb dX12_fillState_137 (by decide) (fun c2 => ?_) (fun c2 => ?_)
  · replace h := ite_t h ((lg_cmp_ge _ _).mp c2)
    exact tX12_fillState_162 C hr26 v1 v2 v3 v4 (lg 5 v3.toNatClampNeg) v3 sg lg _ _ _ hw (lv_sub hl [0, 1, 2, 3, 4] rfl) h
  · replace h := ite_f h (fun z => c2 ((lg_cmp_ge _ _).mpr z))
    refine lv_lload hx hb dX12_fillState_140 (lv_at hl 6 rfl) ?_
    refine lv_aload_n hx hb dX12_fillState_142 rfl (lv_at hl 0 rfl) ?_
    refine r_getR (ci := 12) (C := RX12) (U := TX12) (N := 18) hx hb hts kX12_fillState_iX12 hown hK hw 0 (by decide) rfl rfl 5 (by decide) 4 rfl (hts _ kX12_fillState_f20) (fun _ h9 => h9) dX12_fillState_143 ?_
    refine lv_iload_n hx hb dX12_fillState_146 rfl (lv_at hl 3 rfl) ?_
    have hi3 := (gin_some h).1
    replace h := (gin_some h).2
    refine r_lald hx hb hK hw 4 2 53248 (by decide) rfl rfl rfl hi3 dX12_fillState_147 ?_
    refine W.lcmp hx hb dX12_fillState_148 ?_
    refine lv_if_ne (tgt := 162) hx hb dX12_fillState_149 (by decide) (fun c4 => ?_) (fun c4 => ?_)
    · replace h := ite_f h (fun z => c4 ((lg_cmp_eq _ _).mpr z))
      exact tX12_fillState_162 C hr26 v1 v2 v3 v4 (lg 5 v3.toNatClampNeg) v3 sg lg _ _ _ hw (lv_sub hl [0, 1, 2, 3, 4] rfl) h
    · replace h := ite_t h ((lg_cmp_eq _ _).mp c4)
      refine lv_aload_n hx hb dX12_fillState_152 rfl (lv_at hl 0 rfl) ?_
      refine r_getR (ci := 12) (C := RX12) (U := TX12) (N := 18) hx hb hts kX12_fillState_iX12 hown hK hw 0 (by decide) rfl rfl 6 (by decide) 5 rfl (hts _ kX12_fillState_f24) (fun _ h9 => h9) dX12_fillState_153 ?_
      refine lv_iload hx hb dX12_fillState_156 (lv_at hl 5 rfl) ?_
      have hi5 := (gin_some h).1
      replace h := (gin_some h).2
      refine r_lald hx hb hK hw 5 2 53248 (by decide) rfl rfl rfl hi5 dX12_fillState_158 ?_
      refine lv_goto (tgt := 163) hx hb dX12_fillState_159 (by decide) ?_
      exact tX12_fillState_163 C hr26 v1 v2 v3 v4 (lg 5 v5.toNatClampNeg) (lg 5 v3.toNatClampNeg) v3 sg lg _ _ _ hw (lv_sub hl [0, 1, 2, 3, 4] rfl) h
def fX12_fillState_95 (r26 : (Int32 × Int32 × Int32 × Int32 × Sg × Lg) → Option (Sg × Lg)) (v1 : Int32) (v2 : Int32) (v3 : Int32) (v4 : Int32) (v5 : Int32) (w0 : Int64) (sg : Sg) (lg : Lg) : Option (Sg × Lg) :=
  gin v3 53248 ((if (lg 4 v3.toNatClampNeg) ≤ w0 then fX12_fillState_124 r26 v1 v2 v3 v4 v5 w0 sg lg else gin v3 53248 (lt (up2L lg 4 v3.toNatClampNeg w0) (fun lg4 => gin v3 53248 (lt (up2L lg4 5 v3.toNatClampNeg (0 : Int64)) (fun lg6 => fX12_fillState_124 r26 v1 v2 v3 v4 v5 w0 sg lg6))))))
set_option maxHeartbeats 4000000 in
set_option maxRecDepth 100000 in
theorem tX12_fillState_95 (C : Cx p s m args meth c cX12_fillState 8 RX12 wsX12_fillState none D vwCl (tysM T) A false []) {so : Sg} {lo : Lg} {r26 : (Int32 × Int32 × Int32 × Int32 × Sg × Lg) → Option (Sg × Lg)} (hr26 : ∀ (v1 : Int32) (v2 : Int32) (v3 : Int32) (v4 : Int32) (sg : Sg) (lg : Lg), r26 (v1, v2, v3, v4, sg, lg) = some (so, lo) → ∀ (H : Heap) (locs : List Loc) (ls : Array Slot), WS ZM D vwCl T ad sg lg A s.heap H locs → lv_has ls 8 [(0, .ref (ad 0)), (1, .int v1), (2, .int v2), (3, .int v3), (4, .int v4)] → W p l e rmX12_fillState s m args below meth c H locs 0 0 (MQ below (QV ZM D vwCl T (tysM T) A (fun z => ad = z) so lo) args s 0 0 A) (F0 m 26 ls [])) : ∀ (v1 : Int32) (v2 : Int32) (v3 : Int32) (v4 : Int32) (v5 : Int32) (w0 : Int64) (sg : Sg) (lg : Lg), ∀ (H : Heap) (locs : List Loc) (ls : Array Slot), WS ZM D vwCl T ad sg lg A s.heap H locs → lv_has ls 8 [(0, .ref (ad 0)), (1, .int v1), (2, .int v2), (3, .int v3), (4, .int v4), (5, .int v5)] → fX12_fillState_95 r26 v1 v2 v3 v4 v5 w0 sg lg = some (so, lo) → W p l e rmX12_fillState s m args below meth c H locs 0 0 (MQ below (QV ZM D vwCl T (tysM T) A (fun z => ad = z) so lo) args s 0 0 A) (F0 m 95 ls [.long w0]) := by
  obtain ⟨⟨hx, hb, hml, hown, hts⟩, hr, hlk, hK, hA, hsp⟩ := id C
  intro v1 v2 v3 v4 v5 w0 sg lg H locs ls hw hl h
  unfold fX12_fillState_95 at h
  refine lv_lstore (lv' := [(6, .long w0), (0, .ref (ad 0)), (1, .int v1), (2, .int v2), (3, .int v3), (4, .int v4), (5, .int v5)]) hx hb dX12_fillState_95 hl (by decide) rfl (fun ls hl => ?_)
  refine lv_lload hx hb dX12_fillState_97 (lv_at hl 0 rfl) ?_
  refine lv_aload_n hx hb dX12_fillState_99 rfl (lv_at hl 1 rfl) ?_
  refine r_getR (ci := 12) (C := RX12) (U := TX12) (N := 18) hx hb hts kX12_fillState_iX12 hown hK hw 0 (by decide) rfl rfl 5 (by decide) 4 rfl (hts _ kX12_fillState_f20) (fun _ h9 => h9) dX12_fillState_100 ?_
  refine lv_iload_n hx hb dX12_fillState_103 rfl (lv_at hl 4 rfl) ?_
  have hi1 := (gin_some h).1
  replace h := (gin_some h).2
  refine r_lald hx hb hK hw 4 2 53248 (by decide) rfl rfl rfl hi1 dX12_fillState_104 ?_
  refine W.lcmp hx hb dX12_fillState_105 ?_
  refine lv_if_ge (tgt := 124) hx hb dX12_fillState_106 (by decide) (fun c2 => ?_) (fun c2 => ?_)
  · replace h := ite_t h ((lg_cmp_ge _ _).mp c2)
    exact tX12_fillState_124 C hr26 v1 v2 v3 v4 v5 w0 sg lg _ _ _ hw (lv_sub hl [1, 2, 3, 4, 5, 6, 0] rfl) h
  · replace h := ite_f h (fun z => c2 ((lg_cmp_ge _ _).mpr z))
    refine lv_aload_n hx hb dX12_fillState_109 rfl (lv_at hl 1 rfl) ?_
    refine r_getR (ci := 12) (C := RX12) (U := TX12) (N := 18) hx hb hts kX12_fillState_iX12 hown hK hw 0 (by decide) rfl rfl 5 (by decide) 4 rfl (hts _ kX12_fillState_f20) (fun _ h9 => h9) dX12_fillState_110 ?_
    refine lv_iload_n hx hb dX12_fillState_113 rfl (lv_at hl 4 rfl) ?_
    refine lv_lload hx hb dX12_fillState_114 (lv_at hl 0 rfl) ?_
    have hi3 := (gin_some h).1
    replace h := (gin_some h).2
    refine r_last hx hb hK hw 4 2 53248 (by decide) rfl rfl rfl hi3 dX12_fillState_116 (fun H locs lg4 elg4 hw => ?_)
    replace h := lt_get h lg4 elg4
    refine lv_aload_n hx hb dX12_fillState_117 rfl (lv_at hl 1 rfl) ?_
    refine r_getR (ci := 12) (C := RX12) (U := TX12) (N := 18) hx hb hts kX12_fillState_iX12 hown hK hw 0 (by decide) rfl rfl 6 (by decide) 5 rfl (hts _ kX12_fillState_f24) (fun _ h9 => h9) dX12_fillState_118 ?_
    refine lv_iload_n hx hb dX12_fillState_121 rfl (lv_at hl 4 rfl) ?_
    refine lv_lconst (v := (0 : Int64)) hx hb dX12_fillState_122 (by decide) ?_
    have hi5 := (gin_some h).1
    replace h := (gin_some h).2
    refine r_last hx hb hK hw 5 2 53248 (by decide) rfl rfl rfl hi5 dX12_fillState_123 (fun H locs lg6 elg6 hw => ?_)
    replace h := lt_get h lg6 elg6
    exact tX12_fillState_124 C hr26 v1 v2 v3 v4 v5 w0 sg lg6 _ _ _ hw (lv_sub hl [1, 2, 3, 4, 5, 6, 0] rfl) h
def fX12_fillState_26 (r26 : (Int32 × Int32 × Int32 × Int32 × Sg × Lg) → Option (Sg × Lg)) (v1 : Int32) (v2 : Int32) (v3 : Int32) (v4 : Int32) (sg : Sg) (lg : Lg) : Option (Sg × Lg) :=
  bnd3 (fX12_hens sg lg) (fun y1 sg2 lg3 => (if y1 ≤ v4 then some (sg2, lg3) else bnd3 (fX12_mayCome v4 v1 v2 sg2 lg3) (fun y6 sg7 lg8 => (if y6 = 0 then fX12_fillState_165 r26 v1 v2 v3 v4 sg7 lg8 else lt (((13 : Int32) * (v1 ||| ((1 : Int32) <<< (v4 &&& 31)))) + v4) (fun x11 => gin x11 53248 ((if (lg8 4 x11.toNatClampNeg) < (1000000000000000 : Int64) then bnd3 (fX12_cost v4 v1 sg7 lg8) (fun y14 sg15 lg16 => gin x11 53248 (fX12_fillState_95 r26 v1 v2 v3 v4 x11 (y14 + (lg16 4 x11.toNatClampNeg)) sg15 lg16)) else fX12_fillState_95 r26 v1 v2 v3 v4 x11 (1000000000000000 : Int64) sg7 lg8)))))))
set_option maxHeartbeats 4000000 in
set_option maxRecDepth 100000 in
theorem tX12_fillState_26 (C : Cx p s m args meth c cX12_fillState 8 RX12 wsX12_fillState none D vwCl (tysM T) A false []) {so : Sg} {lo : Lg} {r26 : (Int32 × Int32 × Int32 × Int32 × Sg × Lg) → Option (Sg × Lg)} (hr26 : ∀ (v1 : Int32) (v2 : Int32) (v3 : Int32) (v4 : Int32) (sg : Sg) (lg : Lg), r26 (v1, v2, v3, v4, sg, lg) = some (so, lo) → ∀ (H : Heap) (locs : List Loc) (ls : Array Slot), WS ZM D vwCl T ad sg lg A s.heap H locs → lv_has ls 8 [(0, .ref (ad 0)), (1, .int v1), (2, .int v2), (3, .int v3), (4, .int v4)] → W p l e rmX12_fillState s m args below meth c H locs 0 0 (MQ below (QV ZM D vwCl T (tysM T) A (fun z => ad = z) so lo) args s 0 0 A) (F0 m 26 ls [])) : ∀ (v1 : Int32) (v2 : Int32) (v3 : Int32) (v4 : Int32) (sg : Sg) (lg : Lg), ∀ (H : Heap) (locs : List Loc) (ls : Array Slot), WS ZM D vwCl T ad sg lg A s.heap H locs → lv_has ls 8 [(0, .ref (ad 0)), (1, .int v1), (2, .int v2), (3, .int v3), (4, .int v4)] → fX12_fillState_26 r26 v1 v2 v3 v4 sg lg = some (so, lo) → W p l e rmX12_fillState s m args below meth c H locs 0 0 (MQ below (QV ZM D vwCl T (tysM T) A (fun z => ad = z) so lo) args s 0 0 A) (F0 m 26 ls []) := by
  obtain ⟨⟨hx, hb, hml, hown, hts⟩, hr, hlk, hK, hA, hsp⟩ := id C
  intro v1 v2 v3 v4 sg lg H locs ls hw hl h
  unfold fX12_fillState_26 at h
  refine lv_iload hx hb dX12_fillState_26 (lv_at hl 4 rfl) ?_
  refine lv_aload_n hx hb dX12_fillState_28 rfl (lv_at hl 0 rfl) ?_
  obtain ⟨y1, sg2, lg3, hq4, h2⟩ := bnd3_some h
  replace h := h2
  clear h2
  refine r_cVi (As := []) (rest := [.int v4]) C hw 0 (by decide) (ci := 12) rfl rfl (mX12_hens l D T ad  H.size sg lg hq4) (cwV 0 hts gX12_fillState_X12_hens rfl rfl rfl (by decide +kernel) ⟨Nat.le_of_ble_eq_true rfl, Nat.le_of_ble_eq_true rfl⟩) rfl hl.1 rfl (Nat.le_of_ble_eq_true rfl) dX12_fillState_29 ⟨Nat.le_of_ble_eq_true rfl, Nat.le_of_ble_eq_true rfl⟩ (fun ad' H locs hp hw => ?_)
  subst hp
  refine W.widen (k := 0) (n := 0) (by decide) (by decide) ?_
  refine lv_icmp_ge (tgt := 171) hx hb dX12_fillState_32 (by decide) (fun c5 => ?_) (fun c5 => ?_)
  · replace h := ite_t h c5
    cases h
    exact r_vret C hw rfl (by decide) (by decide) dX12_fillState_171
  · replace h := ite_f h c5
    refine lv_aload_n hx hb dX12_fillState_35 rfl (lv_at hl 0 rfl) ?_
    refine lv_iload hx hb dX12_fillState_36 (lv_at hl 4 rfl) ?_
    refine lv_iload_n hx hb dX12_fillState_38 rfl (lv_at hl 1 rfl) ?_
    refine lv_iload_n hx hb dX12_fillState_39 rfl (lv_at hl 2 rfl) ?_
    obtain ⟨y6, sg7, lg8, hq9, h2⟩ := bnd3_some h
    replace h := h2
    clear h2
    refine r_cVi (As := [.int v4, .int v1, .int v2]) (rest := []) C hw 0 (by decide) (ci := 12) rfl rfl (mX12_mayCome l D T ad  H.size v4 v1 v2 sg2 lg3 hq9) (cwV 3 hts gX12_fillState_X12_mayCome rfl rfl rfl (by decide +kernel) ⟨Nat.le_of_ble_eq_true rfl, Nat.le_of_ble_eq_true rfl⟩) rfl hl.1 rfl (Nat.le_of_ble_eq_true rfl) dX12_fillState_40 ⟨Nat.le_of_ble_eq_true rfl, Nat.le_of_ble_eq_true rfl⟩ (fun ad' H locs hp hw => ?_)
    subst hp
    refine W.widen (k := 0) (n := 0) (by decide) (by decide) ?_
    refine lv_if_eq (tgt := 165) hx hb dX12_fillState_43 (by decide) (fun c10 => ?_) (fun c10 => ?_)
    · replace h := ite_t h c10
      exact tX12_fillState_165 C hr26 v1 v2 v3 v4 sg7 lg8 _ _ _ hw (lv_sub hl [0, 1, 2, 3, 4] rfl) h
    · replace h := ite_f h c10
      refine lv_bipush (v := (13 : Int32)) hx hb dX12_fillState_46 (by decide) ?_
      refine lv_iload_n hx hb dX12_fillState_48 rfl (lv_at hl 1 rfl) ?_
      refine lv_iconst (v := (1 : Int32)) hx hb dX12_fillState_49 (by decide) ?_
      refine lv_iload hx hb dX12_fillState_50 (lv_at hl 4 rfl) ?_
      refine lv_ishl hx hb dX12_fillState_52 ?_
      refine lv_ior hx hb dX12_fillState_53 ?_
      refine lv_imul hx hb dX12_fillState_54 ?_
      refine lv_iload hx hb dX12_fillState_55 (lv_at hl 4 rfl) ?_
      refine lv_iadd hx hb dX12_fillState_57 ?_
      refine lv_topi (fun x11 ex11 => ?_)
      replace h := lt_get h x11 ex11
      refine lv_istore (lv' := [(5, .int x11), (0, .ref (ad 0)), (1, .int v1), (2, .int v2), (3, .int v3), (4, .int v4)]) hx hb dX12_fillState_58 hl (by decide) rfl (fun ls hl => ?_)
      refine lv_aload_n hx hb dX12_fillState_60 rfl (lv_at hl 1 rfl) ?_
      refine r_getR (ci := 12) (C := RX12) (U := TX12) (N := 18) hx hb hts kX12_fillState_iX12 hown hK hw 0 (by decide) rfl rfl 5 (by decide) 4 rfl (hts _ kX12_fillState_f20) (fun _ h9 => h9) dX12_fillState_61 ?_
      refine lv_iload hx hb dX12_fillState_64 (lv_at hl 0 rfl) ?_
      have hi12 := (gin_some h).1
      replace h := (gin_some h).2
      refine r_lald hx hb hK hw 4 2 53248 (by decide) rfl rfl rfl hi12 dX12_fillState_66 ?_
      refine lv_ldc2 hx hb hown (hts _ kX12_fillState_c131) dX12_fillState_67 ?_
      refine W.lcmp hx hb dX12_fillState_70 ?_
      refine lv_if_lt (tgt := 80) hx hb dX12_fillState_71 (by decide) (fun c13 => ?_) (fun c13 => ?_)
      · replace h := ite_t h ((lg_cmp_lt _ _).mp c13)
        refine lv_aload_n hx hb dX12_fillState_80 rfl (lv_at hl 1 rfl) ?_
        refine lv_iload hx hb dX12_fillState_81 (lv_at hl 5 rfl) ?_
        refine lv_iload_n hx hb dX12_fillState_83 rfl (lv_at hl 2 rfl) ?_
        obtain ⟨y14, sg15, lg16, hq17, h2⟩ := bnd3_some h
        replace h := h2
        clear h2
        refine r_cVl (As := [.int v4, .int v1]) (rest := []) C hw 0 (by decide) (ci := 12) rfl rfl (mX12_cost l D T ad  H.size v4 v1 sg7 lg8 hq17) (cwV 2 hts gX12_fillState_X12_cost rfl rfl rfl (by decide +kernel) ⟨Nat.le_of_ble_eq_true rfl, Nat.le_of_ble_eq_true rfl⟩) rfl hl.1 rfl (Nat.le_of_ble_eq_true rfl) dX12_fillState_84 ⟨Nat.le_of_ble_eq_true rfl, Nat.le_of_ble_eq_true rfl⟩ (fun ad' H locs hp hw => ?_)
        subst hp
        refine W.widen (k := 0) (n := 0) (by decide) (by decide) ?_
        refine lv_aload_n hx hb dX12_fillState_87 rfl (lv_at hl 1 rfl) ?_
        refine r_getR (ci := 12) (C := RX12) (U := TX12) (N := 18) hx hb hts kX12_fillState_iX12 hown hK hw 0 (by decide) rfl rfl 5 (by decide) 4 rfl (hts _ kX12_fillState_f20) (fun _ h9 => h9) dX12_fillState_88 ?_
        refine lv_iload hx hb dX12_fillState_91 (lv_at hl 0 rfl) ?_
        have hi18 := (gin_some h).1
        replace h := (gin_some h).2
        refine r_lald hx hb hK hw 4 2 53248 (by decide) rfl rfl rfl hi18 dX12_fillState_93 ?_
        refine lv_ladd hx hb dX12_fillState_94 ?_
        exact tX12_fillState_95 C hr26 v1 v2 v3 v4 x11 (y14 + (lg16 4 x11.toNatClampNeg)) sg15 lg16 _ _ _ hw (lv_sub hl [1, 2, 3, 4, 5, 0] rfl) h
      · replace h := ite_f h (fun z => c13 ((lg_cmp_lt _ _).mpr z))
        refine lv_ldc2 hx hb hown (hts _ kX12_fillState_c131) dX12_fillState_74 ?_
        refine lv_goto (tgt := 95) hx hb dX12_fillState_77 (by decide) ?_
        exact tX12_fillState_95 C hr26 v1 v2 v3 v4 x11 (1000000000000000 : Int64) sg7 lg8 _ _ _ hw (lv_sub hl [1, 2, 3, 4, 5, 0] rfl) h
def LX12_fillState_26  : (Int32 × Int32 × Int32 × Int32 × Sg × Lg) → Option (Sg × Lg) := loop (fun rec z => fX12_fillState_26 rec z.1 z.2.1 z.2.2.1 z.2.2.2.1 z.2.2.2.2.1 z.2.2.2.2.2)
theorem TX12_fillState_26 (C : Cx p s m args meth c cX12_fillState 8 RX12 wsX12_fillState none D vwCl (tysM T) A false []) {so : Sg} {lo : Lg}   : ∀ (v1 : Int32) (v2 : Int32) (v3 : Int32) (v4 : Int32) (sg : Sg) (lg : Lg), LX12_fillState_26 (v1, v2, v3, v4, sg, lg) = some (so, lo) → ∀ (H : Heap) (locs : List Loc) (ls : Array Slot), WS ZM D vwCl T ad sg lg A s.heap H locs → lv_has ls 8 [(0, .ref (ad 0)), (1, .int v1), (2, .int v2), (3, .int v3), (4, .int v4)] → W p l e rmX12_fillState s m args below meth c H locs 0 0 (MQ below (QV ZM D vwCl T (tysM T) A (fun z => ad = z) so lo) args s 0 0 A) (F0 m 26 ls []) := by
  have key : ∀ z : (Int32 × Int32 × Int32 × Int32 × Sg × Lg), LX12_fillState_26  z = some (so, lo) → ∀ (H : Heap) (locs : List Loc) (ls : Array Slot), WS ZM D vwCl T ad z.2.2.2.2.1 z.2.2.2.2.2 A s.heap H locs → lv_has ls 8 [(0, .ref (ad 0)), (1, .int z.1), (2, .int z.2.1), (3, .int z.2.2.1), (4, .int z.2.2.2.1)] → W p l e rmX12_fillState s m args below meth c H locs 0 0 (MQ below (QV ZM D vwCl T (tysM T) A (fun z => ad = z) so lo) args s 0 0 A) (F0 m 26 ls []) := by
    intro z h
    unfold LX12_fillState_26 at h
    exact loop_ind (fun rec z => fX12_fillState_26 rec z.1 z.2.1 z.2.2.1 z.2.2.2.1 z.2.2.2.2.1 z.2.2.2.2.2) (y := (so, lo)) (P := fun z => ∀ (H : Heap) (locs : List Loc) (ls : Array Slot), WS ZM D vwCl T ad z.2.2.2.2.1 z.2.2.2.2.2 A s.heap H locs → lv_has ls 8 [(0, .ref (ad 0)), (1, .int z.1), (2, .int z.2.1), (3, .int z.2.2.1), (4, .int z.2.2.2.1)] → W p l e rmX12_fillState s m args below meth c H locs 0 0 (MQ below (QV ZM D vwCl T (tysM T) A (fun z => ad = z) so lo) args s 0 0 A) (F0 m 26 ls [])) (fun rec hrec z h H locs ls hw hl => tX12_fillState_26 C  (fun v1 v2 v3 v4 sg lg => hrec (v1, v2, v3, v4, sg, lg)) z.1 z.2.1 z.2.2.1 z.2.2.2.1 z.2.2.2.2.1 z.2.2.2.2.2 H locs ls hw hl h) z h
  exact fun v1 v2 v3 v4 sg lg => key (v1, v2, v3, v4, sg, lg)
def fX12_fillState  (v1 : Int32) (v2 : Int32) (sg : Sg) (lg : Lg) : Option (Sg × Lg) :=
  lt (((13 : Int32) * v1) + v2) (fun x1 => gin x1 53248 (lt (up2L lg 4 x1.toNatClampNeg (1000000000000000 : Int64)) (fun lg3 => gin x1 53248 (lt (up2L lg3 5 x1.toNatClampNeg (0 : Int64)) (fun lg5 => LX12_fillState_26 (v1, v2, x1, (0 : Int32), sg, lg5))))))
set_option maxHeartbeats 4000000 in
set_option maxRecDepth 100000 in
theorem tX12_fillState_0 (C : Cx p s m args meth c cX12_fillState 8 RX12 wsX12_fillState none D vwCl (tysM T) A false []) {so : Sg} {lo : Lg}   : ∀ (v1 : Int32) (v2 : Int32) (sg : Sg) (lg : Lg), ∀ (H : Heap) (locs : List Loc) (ls : Array Slot), WS ZM D vwCl T ad sg lg A s.heap H locs → lv_has ls 8 [(0, .ref (ad 0)), (1, .int v1), (2, .int v2)] → fX12_fillState v1 v2 sg lg = some (so, lo) → W p l e rmX12_fillState s m args below meth c H locs 0 0 (MQ below (QV ZM D vwCl T (tysM T) A (fun z => ad = z) so lo) args s 0 0 A) (F0 m 0 ls []) := by
  obtain ⟨⟨hx, hb, hml, hown, hts⟩, hr, hlk, hK, hA, hsp⟩ := id C
  intro v1 v2 sg lg H locs ls hw hl h
  unfold fX12_fillState at h
  refine lv_bipush (v := (13 : Int32)) hx hb dX12_fillState_0 (by decide) ?_
  refine lv_iload_n hx hb dX12_fillState_2 rfl (lv_at hl 1 rfl) ?_
  refine lv_imul hx hb dX12_fillState_3 ?_
  refine lv_iload_n hx hb dX12_fillState_4 rfl (lv_at hl 2 rfl) ?_
  refine lv_iadd hx hb dX12_fillState_5 ?_
  refine lv_topi (fun x1 ex1 => ?_)
  replace h := lt_get h x1 ex1
  refine lv_istore_n (lv' := [(3, .int x1), (0, .ref (ad 0)), (1, .int v1), (2, .int v2)]) hx hb dX12_fillState_6 rfl hl (by decide) rfl (fun ls hl => ?_)
  refine lv_aload_n hx hb dX12_fillState_7 rfl (lv_at hl 1 rfl) ?_
  refine r_getR (ci := 12) (C := RX12) (U := TX12) (N := 18) hx hb hts kX12_fillState_iX12 hown hK hw 0 (by decide) rfl rfl 5 (by decide) 4 rfl (hts _ kX12_fillState_f20) (fun _ h9 => h9) dX12_fillState_8 ?_
  refine lv_iload_n hx hb dX12_fillState_11 rfl (lv_at hl 0 rfl) ?_
  refine lv_ldc2 hx hb hown (hts _ kX12_fillState_c131) dX12_fillState_12 ?_
  have hi2 := (gin_some h).1
  replace h := (gin_some h).2
  refine r_last hx hb hK hw 4 2 53248 (by decide) rfl rfl rfl hi2 dX12_fillState_15 (fun H locs lg3 elg3 hw => ?_)
  replace h := lt_get h lg3 elg3
  refine lv_aload_n hx hb dX12_fillState_16 rfl (lv_at hl 1 rfl) ?_
  refine r_getR (ci := 12) (C := RX12) (U := TX12) (N := 18) hx hb hts kX12_fillState_iX12 hown hK hw 0 (by decide) rfl rfl 6 (by decide) 5 rfl (hts _ kX12_fillState_f24) (fun _ h9 => h9) dX12_fillState_17 ?_
  refine lv_iload_n hx hb dX12_fillState_20 rfl (lv_at hl 0 rfl) ?_
  refine lv_lconst (v := (0 : Int64)) hx hb dX12_fillState_21 (by decide) ?_
  have hi4 := (gin_some h).1
  replace h := (gin_some h).2
  refine r_last hx hb hK hw 5 2 53248 (by decide) rfl rfl rfl hi4 dX12_fillState_22 (fun H locs lg5 elg5 hw => ?_)
  replace h := lt_get h lg5 elg5
  refine lv_iconst (v := (0 : Int32)) hx hb dX12_fillState_23 (by decide) ?_
  refine lv_istore (lv' := [(4, .int (0 : Int32)), (3, .int x1), (0, .ref (ad 0)), (1, .int v1), (2, .int v2)]) hx hb dX12_fillState_24 hl (by decide) rfl (fun ls hl => ?_)
  exact TX12_fillState_26 C v1 v2 x1 (0 : Int32) sg lg5 h _ _ _ hw (lv_sub hl [2, 3, 4, 1, 0] rfl)
theorem mX12_fillState (l : Launch) (D : va_G) (T : Nat → ClassId) (ad : Nat → Nat)  (sz : Nat)   (v1 : Int32) (v2 : Int32) (sg : Sg) (lg : Lg) {so : Sg} {lo : Lg} (h : fX12_fillState v1 v2 sg lg = some (so, lo)) : Met l yX12_fillState wsX12_fillState rmX12_fillState (PreZ ZM D vwCl T (tysM T) ad sg lg false [] [.ref (ad 0), .int v1, .int v2] sz) (QV ZM D vwCl T (tysM T) (va_A (zwd ZM T ad sg lg) sz) (fun z => ad = z) so lo) 0 0 (va_A (zwd ZM T ad sg lg) sz) :=
  metZ [.ref (ad 0), .int v1, .int v2] sz (by decide) rfl (Nat.le_of_ble_eq_true rfl) (fun p e s m below meth c ls C hw hl => tX12_fillState_0 C v1 v2 sg lg _ _ _ hw hl h)
end ZM
