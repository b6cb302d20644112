section ZM
variable {p : Program} {l : Launch} {e : Env} {s : State} {m : MethodId} {args : Array Value} {below : List Frame} {meth : Method} {c : Code} {D : va_G} {T : Nat → ClassId} {A : Nat → Prop} {ad a : Nat → Nat}
-- PeckYardModel.ask(II)J
def rmX12_ask : Room := { frames := 2, cells := 0, slots := 0, locals := 46 }
theorem kX12_ask_c72 : Cond.constantLong RX12 72 (-2000000001) ∈ wsX12_ask := by decide +kernel
theorem kX12_ask_f7 : Cond.fieldLink RX12 7 "PeckYardModel" "s" "[I" ∈ wsX12_ask := by decide +kernel
theorem kX12_ask_iX12 : ∀ w ∈ u_ws RX12 TX12 18, w ∈ wsX12_ask := by decide +kernel
def fX12_ask  (v1 : Int32) (v2 : Int32) (sg : Sg) (lg : Lg) : Option (Int64 × Sg × Lg) :=
  bnd3 (fX12_isHen v1 sg lg) (fun y1 sg2 lg3 => (if y1 = 0 then some ((-2000000001 : Int64), sg2, lg3) else bnd3 (fX12_mayAsk v1 v2 sg2 lg3) (fun y6 sg7 lg8 => (if y6 = 0 then some ((-2000000001 : Int64), sg7, lg8) else bnd2 (fX12_keep sg7 lg8) (fun sg11 lg12 => bnd3 (fX12_asks v1 sg11 lg12) (fun y14 sg15 lg16 => gin ((13 : Int32) + v1) 193 (lt (up2 sg15 1 ((13 : Int32) + v1).toNatClampNeg v2) (fun sg19 => some (y14.toInt64, sg19, lg16)))))))))
set_option maxHeartbeats 4000000 in
set_option maxRecDepth 100000 in
theorem tX12_ask_0 (C : Cx p s m args meth c cX12_ask 5 RX12 wsX12_ask (some .long) D vwCl (tysM T) A false []) {ro : Int64} {so : Sg} {lo : Lg}   : ∀ (v1 : Int32) (v2 : Int32) (sg : Sg) (lg : Lg), ∀ (H : Heap) (locs : List Loc) (ls : Array Slot), WS ZM D vwCl T ad sg lg A s.heap H locs → lv_has ls 5 [(0, .ref (ad 0)), (1, .int v1), (2, .int v2)] → fX12_ask v1 v2 sg lg = some (ro, so, lo) → W p l e rmX12_ask s m args below meth c H locs 0 0 (MQ below (QL ZM D vwCl T (tysM T) A (fun z => ad = z) ro so lo) args s 0 0 A) (F0 m 0 ls []) := by
  obtain ⟨⟨hx, hb, hml, hown, hts⟩, hr, hlk, hK, hA, hsp⟩ := id C
  intro v1 v2 sg lg H locs ls hw hl h
  unfold fX12_ask at h
  refine lv_aload_n hx hb dX12_ask_0 rfl (lv_at hl 0 rfl) ?_
  refine lv_iload_n hx hb dX12_ask_1 rfl (lv_at hl 1 rfl) ?_
  obtain ⟨y1, sg2, lg3, hq4, h2⟩ := bnd3_some h
  replace h := h2
  clear h2
  refine r_cVi (As := [.int v1]) (rest := []) C hw 0 (by decide) (ci := 12) rfl rfl (mX12_isHen l D T ad  H.size v1 sg lg hq4) (cwV 1 hts gX12_ask_X12_isHen rfl rfl rfl (by decide +kernel) ⟨Nat.le_of_ble_eq_true rfl, Nat.le_of_ble_eq_true rfl⟩) rfl hl.1 rfl (Nat.le_of_ble_eq_true rfl) dX12_ask_2 ⟨Nat.le_of_ble_eq_true rfl, Nat.le_of_ble_eq_true rfl⟩ (fun ad' H locs hp hw => ?_)
  subst hp
  refine W.widen (k := 0) (n := 0) (by decide) (by decide) ?_
  refine lv_if_eq (tgt := 16) hx hb dX12_ask_5 (by decide) (fun c5 => ?_) (fun c5 => ?_)
  · replace h := ite_t h c5
    refine lv_ldc2 hx hb hown (hts _ kX12_ask_c72) dX12_ask_16 ?_
    cases h
    exact r_lret C hw rfl (by decide) (by decide) dX12_ask_19
  · replace h := ite_f h c5
    refine lv_iload_n hx hb dX12_ask_8 rfl (lv_at hl 1 rfl) ?_
    refine lv_iload_n hx hb dX12_ask_9 rfl (lv_at hl 2 rfl) ?_
    obtain ⟨y6, sg7, lg8, hq9, h2⟩ := bnd3_some h
    replace h := h2
    clear h2
    refine r_cSi (As := [.int v1, .int v2]) (rest := []) C hw (mX12_mayAsk l D T ad  H.size v1 v2 sg2 lg3 hq9) (va_cwS 2 hts gX12_ask_X12_mayAsk rfl rfl rfl (by decide +kernel) ⟨Nat.le_of_ble_eq_true rfl, Nat.le_of_ble_eq_true rfl⟩) rfl hl.1 rfl (Nat.le_of_ble_eq_true rfl) dX12_ask_10 ⟨Nat.le_of_ble_eq_true rfl, Nat.le_of_ble_eq_true rfl⟩ (fun ad' H locs hp hw => ?_)
    subst hp
    refine W.widen (k := 0) (n := 0) (by decide) (by decide) ?_
    refine lv_if_ne (tgt := 20) hx hb dX12_ask_13 (by decide) (fun c10 => ?_) (fun c10 => ?_)
    · replace h := ite_f h c10
      refine lv_aload_n hx hb dX12_ask_20 rfl (lv_at hl 0 rfl) ?_
      obtain ⟨sg11, lg12, hq13, h2⟩ := bnd2_some h
      replace h := h2
      clear h2
      refine r_cVv (As := []) (rest := []) C hw 0 (by decide) (ci := 12) rfl rfl (mX12_keep l D T ad  H.size sg7 lg8 hq13) (cwV 0 hts gX12_ask_X12_keep rfl rfl rfl (by decide +kernel) ⟨Nat.le_of_ble_eq_true rfl, Nat.le_of_ble_eq_true rfl⟩) rfl hl.1 rfl (Nat.le_of_ble_eq_true rfl) dX12_ask_21 ⟨Nat.le_of_ble_eq_true rfl, Nat.le_of_ble_eq_true rfl⟩ (fun ad' H locs hp hw => ?_)
      subst hp
      refine W.widen (k := 0) (n := 0) (by decide) (by decide) ?_
      refine lv_aload_n hx hb dX12_ask_24 rfl (lv_at hl 0 rfl) ?_
      refine lv_iload_n hx hb dX12_ask_25 rfl (lv_at hl 1 rfl) ?_
      obtain ⟨y14, sg15, lg16, hq17, h2⟩ := bnd3_some h
      replace h := h2
      clear h2
      refine r_cVi (As := [.int v1]) (rest := []) C hw 0 (by decide) (ci := 12) rfl rfl (mX12_asks l D T ad  H.size v1 sg11 lg12 hq17) (cwV 1 hts gX12_ask_X12_asks rfl rfl rfl (by decide +kernel) ⟨Nat.le_of_ble_eq_true rfl, Nat.le_of_ble_eq_true rfl⟩) rfl hl.1 rfl (Nat.le_of_ble_eq_true rfl) dX12_ask_26 ⟨Nat.le_of_ble_eq_true rfl, Nat.le_of_ble_eq_true rfl⟩ (fun ad' H locs hp hw => ?_)
      subst hp
      refine W.widen (k := 0) (n := 0) (by decide) (by decide) ?_
      refine lv_i2l (v := y14.toInt64) hx hb dX12_ask_29 rfl ?_
      refine lv_lstore_n (lv' := [(3, .long y14.toInt64), (0, .ref (ad 0)), (1, .int v1), (2, .int v2)]) hx hb dX12_ask_30 rfl hl (by decide) rfl (fun ls hl => ?_)
      refine lv_aload_n hx hb dX12_ask_31 rfl (lv_at hl 1 rfl) ?_
      refine r_getR (ci := 12) (C := RX12) (U := TX12) (N := 18) hx hb hts kX12_ask_iX12 hown hK hw 0 (by decide) rfl rfl 0 (by decide) 1 rfl (hts _ kX12_ask_f7) (fun _ h9 => h9) dX12_ask_32 ?_
      refine lv_bipush (v := (13 : Int32)) hx hb dX12_ask_35 (by decide) ?_
      refine lv_iload_n hx hb dX12_ask_37 rfl (lv_at hl 2 rfl) ?_
      refine lv_iadd hx hb dX12_ask_38 ?_
      refine lv_iload_n hx hb dX12_ask_39 rfl (lv_at hl 3 rfl) ?_
      have hi18 := (gin_some h).1
      replace h := (gin_some h).2
      refine r_iast ZM_ok hx hb hK hw 1 0 193 (by decide) rfl rfl rfl hi18 dX12_ask_40 (fun H locs sg19 esg19 hw => ?_)
      replace h := lt_get h sg19 esg19
      refine lv_lload_n hx hb dX12_ask_41 rfl (lv_at hl 0 rfl) ?_
      cases h
      exact r_lret C hw rfl (by decide) (by decide) dX12_ask_42
    · replace h := ite_t h c10
      refine lv_ldc2 hx hb hown (hts _ kX12_ask_c72) dX12_ask_16 ?_
      cases h
      exact r_lret C hw rfl (by decide) (by decide) dX12_ask_19
theorem mX12_ask (l : Launch) (D : va_G) (T : Nat → ClassId) (ad : Nat → Nat)  (sz : Nat)   (v1 : Int32) (v2 : Int32) (sg : Sg) (lg : Lg) {ro : Int64} {so : Sg} {lo : Lg} (h : fX12_ask v1 v2 sg lg = some (ro, so, lo)) : Met l yX12_ask wsX12_ask rmX12_ask (PreZ ZM D vwCl T (tysM T) ad sg lg false [] [.ref (ad 0), .int v1, .int v2] sz) (QL ZM D vwCl T (tysM T) (va_A (zwd ZM T ad sg lg) sz) (fun z => ad = z) ro so lo) 0 0 (va_A (zwd ZM T ad sg lg) sz) :=
  metZ [.ref (ad 0), .int v1, .int v2] sz (by decide) rfl (Nat.le_of_ble_eq_true rfl) (fun p e s m below meth c ls C hw hl => tX12_ask_0 C v1 v2 sg lg _ _ _ hw hl h)
-- PeckYardModel.kind(I)I
def rmX12_kind : Room := { frames := 0, cells := 0, slots := 0, locals := 0 }
theorem kX12_kind_f7 : Cond.fieldLink RX12 7 "PeckYardModel" "s" "[I" ∈ wsX12_kind := by decide +kernel
theorem kX12_kind_iX12 : ∀ w ∈ u_ws RX12 TX12 18, w ∈ wsX12_kind := by decide +kernel
def fX12_kind  (v1 : Int32) (sg : Sg) (lg : Lg) : Option (Int32 × Sg × Lg) :=
  lt ((1 : Int32) + v1) (fun x1 => gin x1 193 (some ((sg 1 x1.toNatClampNeg), sg, lg)))
set_option maxHeartbeats 4000000 in
set_option maxRecDepth 100000 in
theorem tX12_kind_0 (C : Cx p s m args meth c cX12_kind 2 RX12 wsX12_kind (some .int) D vwCl (tysM T) A false []) {ro : Int32} {so : Sg} {lo : Lg}   : ∀ (v1 : Int32) (sg : Sg) (lg : Lg), ∀ (H : Heap) (locs : List Loc) (ls : Array Slot), WS ZM D vwCl T ad sg lg A s.heap H locs → lv_has ls 2 [(0, .ref (ad 0)), (1, .int v1)] → fX12_kind v1 sg lg = some (ro, so, lo) → W p l e rmX12_kind s m args below meth c H locs 0 0 (MQ below (QI ZM D vwCl T (tysM T) A (fun z => ad = z) ro so lo) args s 0 0 A) (F0 m 0 ls []) := by
  obtain ⟨⟨hx, hb, hml, hown, hts⟩, hr, hlk, hK, hA, hsp⟩ := id C
  intro v1 sg lg H locs ls hw hl h
  unfold fX12_kind at h
  refine lv_aload_n hx hb dX12_kind_0 rfl (lv_at hl 0 rfl) ?_
  refine r_getR (ci := 12) (C := RX12) (U := TX12) (N := 18) hx hb hts kX12_kind_iX12 hown hK hw 0 (by decide) rfl rfl 0 (by decide) 1 rfl (hts _ kX12_kind_f7) (fun _ h9 => h9) dX12_kind_1 ?_
  refine lv_iconst (v := (1 : Int32)) hx hb dX12_kind_4 (by decide) ?_
  refine lv_iload_n hx hb dX12_kind_5 rfl (lv_at hl 1 rfl) ?_
  refine lv_iadd hx hb dX12_kind_6 ?_
  refine lv_topi (fun x1 ex1 => ?_)
  replace h := lt_get h x1 ex1
  have hi2 := (gin_some h).1
  replace h := (gin_some h).2
  refine r_iald hx hb hK hw 1 0 193 (by decide) rfl rfl rfl hi2 dX12_kind_7 ?_
  cases h
  exact r_iret C hw rfl (by decide) (by decide) dX12_kind_8
theorem mX12_kind (l : Launch) (D : va_G) (T : Nat → ClassId) (ad : Nat → Nat)  (sz : Nat)   (v1 : Int32) (sg : Sg) (lg : Lg) {ro : Int32} {so : Sg} {lo : Lg} (h : fX12_kind v1 sg lg = some (ro, so, lo)) : Met l yX12_kind wsX12_kind rmX12_kind (PreZ ZM D vwCl T (tysM T) ad sg lg false [] [.ref (ad 0), .int v1] sz) (QI ZM D vwCl T (tysM T) (va_A (zwd ZM T ad sg lg) sz) (fun z => ad = z) ro so lo) 0 0 (va_A (zwd ZM T ad sg lg) sz) :=
  metZ [.ref (ad 0), .int v1] sz (by decide) rfl (Nat.le_of_ble_eq_true rfl) (fun p e s m below meth c ls C hw hl => tX12_kind_0 C v1 sg lg _ _ _ hw hl h)
-- PeckYardModel.take(II)J
def rmX12_take : Room := { frames := 2, cells := 0, slots := 0, locals := 46 }
theorem kX12_take_c72 : Cond.constantLong RX12 72 (-2000000001) ∈ wsX12_take := by decide +kernel
theorem kX12_take_f7 : Cond.fieldLink RX12 7 "PeckYardModel" "s" "[I" ∈ wsX12_take := by decide +kernel
theorem kX12_take_iX12 : ∀ w ∈ u_ws RX12 TX12 18, w ∈ wsX12_take := by decide +kernel
theorem kX12_take_c61 : Cond.constantLong RX12 61 (-2000000002) ∈ wsX12_take := by decide +kernel
def fX12_take  (v1 : Int32) (v2 : Int32) (sg : Sg) (lg : Lg) : Option (Int64 × Sg × Lg) :=
  bnd3 (fX12_isHen v1 sg lg) (fun y1 sg2 lg3 => (if y1 = 0 then some ((-2000000001 : Int64), sg2, lg3) else bnd3 (fX12_isIn v2.toInt64 (0 : Int64) (1 : Int64) sg2 lg3) (fun y6 sg7 lg8 => (if y6 = 0 then some ((-2000000001 : Int64), sg7, lg8) else bnd3 (fX12_kind v1 sg7 lg8) (fun y11 sg12 lg13 => (if y11 = (4 : Int32) then bnd2 (fX12_keep sg12 lg13) (fun sg16 lg17 => lt ((25 : Int32) + v1) (fun x19 => gin x19 193 (lt ((sg16 1 x19.toNatClampNeg).toInt64) (fun x21 => gin ((25 : Int32) + v1) 193 (lt (up2 sg16 1 ((25 : Int32) + v1).toNatClampNeg v2) (fun sg23 => some (x21, sg23, lg17))))))) else some ((-2000000002 : Int64), sg12, lg13)))))))
set_option maxHeartbeats 4000000 in
set_option maxRecDepth 100000 in
theorem tX12_take_0 (C : Cx p s m args meth c cX12_take 5 RX12 wsX12_take (some .long) D vwCl (tysM T) A false []) {ro : Int64} {so : Sg} {lo : Lg}   : ∀ (v1 : Int32) (v2 : Int32) (sg : Sg) (lg : Lg), ∀ (H : Heap) (locs : List Loc) (ls : Array Slot), WS ZM D vwCl T ad sg lg A s.heap H locs → lv_has ls 5 [(0, .ref (ad 0)), (1, .int v1), (2, .int v2)] → fX12_take v1 v2 sg lg = some (ro, so, lo) → W p l e rmX12_take s m args below meth c H locs 0 0 (MQ below (QL ZM D vwCl T (tysM T) A (fun z => ad = z) ro so lo) args s 0 0 A) (F0 m 0 ls []) := by
  obtain ⟨⟨hx, hb, hml, hown, hts⟩, hr, hlk, hK, hA, hsp⟩ := id C
  intro v1 v2 sg lg H locs ls hw hl h
  unfold fX12_take at h
  refine lv_aload_n hx hb dX12_take_0 rfl (lv_at hl 0 rfl) ?_
  refine lv_iload_n hx hb dX12_take_1 rfl (lv_at hl 1 rfl) ?_
  obtain ⟨y1, sg2, lg3, hq4, h2⟩ := bnd3_some h
  replace h := h2
  clear h2
  refine r_cVi (As := [.int v1]) (rest := []) C hw 0 (by decide) (ci := 12) rfl rfl (mX12_isHen l D T ad  H.size v1 sg lg hq4) (cwV 1 hts gX12_take_X12_isHen rfl rfl rfl (by decide +kernel) ⟨Nat.le_of_ble_eq_true rfl, Nat.le_of_ble_eq_true rfl⟩) rfl hl.1 rfl (Nat.le_of_ble_eq_true rfl) dX12_take_2 ⟨Nat.le_of_ble_eq_true rfl, Nat.le_of_ble_eq_true rfl⟩ (fun ad' H locs hp hw => ?_)
  subst hp
  refine W.widen (k := 0) (n := 0) (by decide) (by decide) ?_
  refine lv_if_eq (tgt := 18) hx hb dX12_take_5 (by decide) (fun c5 => ?_) (fun c5 => ?_)
  · replace h := ite_t h c5
    refine lv_ldc2 hx hb hown (hts _ kX12_take_c72) dX12_take_18 ?_
    cases h
    exact r_lret C hw rfl (by decide) (by decide) dX12_take_21
  · replace h := ite_f h c5
    refine lv_iload_n hx hb dX12_take_8 rfl (lv_at hl 2 rfl) ?_
    refine lv_i2l (v := v2.toInt64) hx hb dX12_take_9 rfl ?_
    refine lv_lconst (v := (0 : Int64)) hx hb dX12_take_10 (by decide) ?_
    refine lv_lconst (v := (1 : Int64)) hx hb dX12_take_11 (by decide) ?_
    obtain ⟨y6, sg7, lg8, hq9, h2⟩ := bnd3_some h
    replace h := h2
    clear h2
    refine r_cSi (As := [.long v2.toInt64, .long (0 : Int64), .long (1 : Int64)]) (rest := []) C hw (mX12_isIn l D T ad  H.size v2.toInt64 (0 : Int64) (1 : Int64) sg2 lg3 hq9) (va_cwS 3 hts gX12_take_X12_isIn rfl rfl rfl (by decide +kernel) ⟨Nat.le_of_ble_eq_true rfl, Nat.le_of_ble_eq_true rfl⟩) rfl hl.1 rfl (Nat.le_of_ble_eq_true rfl) dX12_take_12 ⟨Nat.le_of_ble_eq_true rfl, Nat.le_of_ble_eq_true rfl⟩ (fun ad' H locs hp hw => ?_)
    subst hp
    refine W.widen (k := 0) (n := 0) (by decide) (by decide) ?_
    refine lv_if_ne (tgt := 22) hx hb dX12_take_15 (by decide) (fun c10 => ?_) (fun c10 => ?_)
    · replace h := ite_f h c10
      refine lv_aload_n hx hb dX12_take_22 rfl (lv_at hl 0 rfl) ?_
      refine lv_iload_n hx hb dX12_take_23 rfl (lv_at hl 1 rfl) ?_
      obtain ⟨y11, sg12, lg13, hq14, h2⟩ := bnd3_some h
      replace h := h2
      clear h2
      refine r_cVi (As := [.int v1]) (rest := []) C hw 0 (by decide) (ci := 12) rfl rfl (mX12_kind l D T ad  H.size v1 sg7 lg8 hq14) (cwV 1 hts gX12_take_X12_kind rfl rfl rfl (by decide +kernel) ⟨Nat.le_of_ble_eq_true rfl, Nat.le_of_ble_eq_true rfl⟩) rfl hl.1 rfl (Nat.le_of_ble_eq_true rfl) dX12_take_24 ⟨Nat.le_of_ble_eq_true rfl, Nat.le_of_ble_eq_true rfl⟩ (fun ad' H locs hp hw => ?_)
      subst hp
      refine W.widen (k := 0) (n := 0) (by decide) (by decide) ?_
      refine lv_iconst (v := (4 : Int32)) hx hb dX12_take_27 (by decide) ?_
      refine lv_icmp_eq (tgt := 35) hx hb dX12_take_28 (by decide) (fun c15 => ?_) (fun c15 => ?_)
      · replace h := ite_t h c15
        refine lv_aload_n hx hb dX12_take_35 rfl (lv_at hl 0 rfl) ?_
        obtain ⟨sg16, lg17, hq18, h2⟩ := bnd2_some h
        replace h := h2
        clear h2
        refine r_cVv (As := []) (rest := []) C hw 0 (by decide) (ci := 12) rfl rfl (mX12_keep l D T ad  H.size sg12 lg13 hq18) (cwV 0 hts gX12_take_X12_keep rfl rfl rfl (by decide +kernel) ⟨Nat.le_of_ble_eq_true rfl, Nat.le_of_ble_eq_true rfl⟩) rfl hl.1 rfl (Nat.le_of_ble_eq_true rfl) dX12_take_36 ⟨Nat.le_of_ble_eq_true rfl, Nat.le_of_ble_eq_true rfl⟩ (fun ad' H locs hp hw => ?_)
        subst hp
        refine W.widen (k := 0) (n := 0) (by decide) (by decide) ?_
        refine lv_aload_n hx hb dX12_take_39 rfl (lv_at hl 0 rfl) ?_
        refine r_getR (ci := 12) (C := RX12) (U := TX12) (N := 18) hx hb hts kX12_take_iX12 hown hK hw 0 (by decide) rfl rfl 0 (by decide) 1 rfl (hts _ kX12_take_f7) (fun _ h9 => h9) dX12_take_40 ?_
        refine lv_bipush (v := (25 : Int32)) hx hb dX12_take_43 (by decide) ?_
        refine lv_iload_n hx hb dX12_take_45 rfl (lv_at hl 1 rfl) ?_
        refine lv_iadd hx hb dX12_take_46 ?_
        refine lv_topi (fun x19 ex19 => ?_)
        replace h := lt_get h x19 ex19
        have hi20 := (gin_some h).1
        replace h := (gin_some h).2
        refine r_iald hx hb hK hw 1 0 193 (by decide) rfl rfl rfl hi20 dX12_take_47 ?_
        refine lv_i2l (v := (sg16 1 x19.toNatClampNeg).toInt64) hx hb dX12_take_48 rfl ?_
        refine lv_topl (fun x21 ex21 => ?_)
        replace h := lt_get h x21 ex21
        refine lv_lstore_n (lv' := [(3, .long x21), (0, .ref (ad 0)), (1, .int v1), (2, .int v2)]) hx hb dX12_take_49 rfl hl (by decide) rfl (fun ls hl => ?_)
        refine lv_aload_n hx hb dX12_take_50 rfl (lv_at hl 1 rfl) ?_
        refine r_getR (ci := 12) (C := RX12) (U := TX12) (N := 18) hx hb hts kX12_take_iX12 hown hK hw 0 (by decide) rfl rfl 0 (by decide) 1 rfl (hts _ kX12_take_f7) (fun _ h9 => h9) dX12_take_51 ?_
        refine lv_bipush (v := (25 : Int32)) hx hb dX12_take_54 (by decide) ?_
        refine lv_iload_n hx hb dX12_take_56 rfl (lv_at hl 2 rfl) ?_
        refine lv_iadd hx hb dX12_take_57 ?_
        refine lv_iload_n hx hb dX12_take_58 rfl (lv_at hl 3 rfl) ?_
        have hi22 := (gin_some h).1
        replace h := (gin_some h).2
        refine r_iast ZM_ok hx hb hK hw 1 0 193 (by decide) rfl rfl rfl hi22 dX12_take_59 (fun H locs sg23 esg23 hw => ?_)
        replace h := lt_get h sg23 esg23
        refine lv_lload_n hx hb dX12_take_60 rfl (lv_at hl 0 rfl) ?_
        cases h
        exact r_lret C hw rfl (by decide) (by decide) dX12_take_61
      · replace h := ite_f h c15
        refine lv_ldc2 hx hb hown (hts _ kX12_take_c61) dX12_take_31 ?_
        cases h
        exact r_lret C hw rfl (by decide) (by decide) dX12_take_34
    · replace h := ite_t h c10
      refine lv_ldc2 hx hb hown (hts _ kX12_take_c72) dX12_take_18 ?_
      cases h
      exact r_lret C hw rfl (by decide) (by decide) dX12_take_21
theorem mX12_take (l : Launch) (D : va_G) (T : Nat → ClassId) (ad : Nat → Nat)  (sz : Nat)   (v1 : Int32) (v2 : Int32) (sg : Sg) (lg : Lg) {ro : Int64} {so : Sg} {lo : Lg} (h : fX12_take v1 v2 sg lg = some (ro, so, lo)) : Met l yX12_take wsX12_take rmX12_take (PreZ ZM D vwCl T (tysM T) ad sg lg false [] [.ref (ad 0), .int v1, .int v2] sz) (QL ZM D vwCl T (tysM T) (va_A (zwd ZM T ad sg lg) sz) (fun z => ad = z) ro so lo) 0 0 (va_A (zwd ZM T ad sg lg) sz) :=
  metZ [.ref (ad 0), .int v1, .int v2] sz (by decide) rfl (Nat.le_of_ble_eq_true rfl) (fun p e s m below meth c ls C hw hl => tX12_take_0 C v1 v2 sg lg _ _ _ hw hl h)
-- PeckYardModel.pen(II)J
def rmX12_pen : Room := { frames := 2, cells := 0, slots := 0, locals := 46 }
theorem kX12_pen_c72 : Cond.constantLong RX12 72 (-2000000001) ∈ wsX12_pen := by decide +kernel
theorem kX12_pen_c94 : Cond.constantLong RX12 94 (3) ∈ wsX12_pen := by decide +kernel
def fX12_pen  (v1 : Int32) (v2 : Int32) (sg : Sg) (lg : Lg) : Option (Int64 × Sg × Lg) :=
  bnd3 (fX12_isHen v1 sg lg) (fun y1 sg2 lg3 => (if y1 = 0 then some ((-2000000001 : Int64), sg2, lg3) else bnd3 (fX12_isIn v2.toInt64 (0 : Int64) (3 : Int64) sg2 lg3) (fun y6 sg7 lg8 => (if y6 = 0 then some ((-2000000001 : Int64), sg7, lg8) else bnd2 (fX12_keep sg7 lg8) (fun sg11 lg12 => bnd2 (fX12_empty v1 v2 sg11 lg12) (fun sg14 lg15 => some ((0 : Int64), sg14, lg15)))))))
set_option maxHeartbeats 4000000 in
set_option maxRecDepth 100000 in
theorem tX12_pen_0 (C : Cx p s m args meth c cX12_pen 3 RX12 wsX12_pen (some .long) D vwCl (tysM T) A false []) {ro : Int64} {so : Sg} {lo : Lg}   : ∀ (v1 : Int32) (v2 : Int32) (sg : Sg) (lg : Lg), ∀ (H : Heap) (locs : List Loc) (ls : Array Slot), WS ZM D vwCl T ad sg lg A s.heap H locs → lv_has ls 3 [(0, .ref (ad 0)), (1, .int v1), (2, .int v2)] → fX12_pen v1 v2 sg lg = some (ro, so, lo) → W p l e rmX12_pen s m args below meth c H locs 0 0 (MQ below (QL ZM D vwCl T (tysM T) A (fun z => ad = z) ro so lo) args s 0 0 A) (F0 m 0 ls []) := by
  obtain ⟨⟨hx, hb, hml, hown, hts⟩, hr, hlk, hK, hA, hsp⟩ := id C
  intro v1 v2 sg lg H locs ls hw hl h
  unfold fX12_pen at h
  refine lv_aload_n hx hb dX12_pen_0 rfl (lv_at hl 0 rfl) ?_
  refine lv_iload_n hx hb dX12_pen_1 rfl (lv_at hl 1 rfl) ?_
  obtain ⟨y1, sg2, lg3, hq4, h2⟩ := bnd3_some h
  replace h := h2
  clear h2
  refine r_cVi (As := [.int v1]) (rest := []) C hw 0 (by decide) (ci := 12) rfl rfl (mX12_isHen l D T ad  H.size v1 sg lg hq4) (cwV 1 hts gX12_pen_X12_isHen rfl rfl rfl (by decide +kernel) ⟨Nat.le_of_ble_eq_true rfl, Nat.le_of_ble_eq_true rfl⟩) rfl hl.1 rfl (Nat.le_of_ble_eq_true rfl) dX12_pen_2 ⟨Nat.le_of_ble_eq_true rfl, Nat.le_of_ble_eq_true rfl⟩ (fun ad' H locs hp hw => ?_)
  subst hp
  refine W.widen (k := 0) (n := 0) (by decide) (by decide) ?_
  refine lv_if_eq (tgt := 20) hx hb dX12_pen_5 (by decide) (fun c5 => ?_) (fun c5 => ?_)
  · replace h := ite_t h c5
    refine lv_ldc2 hx hb hown (hts _ kX12_pen_c72) dX12_pen_20 ?_
    cases h
    exact r_lret C hw rfl (by decide) (by decide) dX12_pen_23
  · replace h := ite_f h c5
    refine lv_iload_n hx hb dX12_pen_8 rfl (lv_at hl 2 rfl) ?_
    refine lv_i2l (v := v2.toInt64) hx hb dX12_pen_9 rfl ?_
    refine lv_lconst (v := (0 : Int64)) hx hb dX12_pen_10 (by decide) ?_
    refine lv_ldc2 hx hb hown (hts _ kX12_pen_c94) dX12_pen_11 ?_
    obtain ⟨y6, sg7, lg8, hq9, h2⟩ := bnd3_some h
    replace h := h2
    clear h2
    refine r_cSi (As := [.long v2.toInt64, .long (0 : Int64), .long (3 : Int64)]) (rest := []) C hw (mX12_isIn l D T ad  H.size v2.toInt64 (0 : Int64) (3 : Int64) sg2 lg3 hq9) (va_cwS 3 hts gX12_pen_X12_isIn rfl rfl rfl (by decide +kernel) ⟨Nat.le_of_ble_eq_true rfl, Nat.le_of_ble_eq_true rfl⟩) rfl hl.1 rfl (Nat.le_of_ble_eq_true rfl) dX12_pen_14 ⟨Nat.le_of_ble_eq_true rfl, Nat.le_of_ble_eq_true rfl⟩ (fun ad' H locs hp hw => ?_)
    subst hp
    refine W.widen (k := 0) (n := 0) (by decide) (by decide) ?_
    refine lv_if_ne (tgt := 24) hx hb dX12_pen_17 (by decide) (fun c10 => ?_) (fun c10 => ?_)
    · replace h := ite_f h c10
      refine lv_aload_n hx hb dX12_pen_24 rfl (lv_at hl 0 rfl) ?_
      obtain ⟨sg11, lg12, hq13, h2⟩ := bnd2_some h
      replace h := h2
      clear h2
      refine r_cVv (As := []) (rest := []) C hw 0 (by decide) (ci := 12) rfl rfl (mX12_keep l D T ad  H.size sg7 lg8 hq13) (cwV 0 hts gX12_pen_X12_keep rfl rfl rfl (by decide +kernel) ⟨Nat.le_of_ble_eq_true rfl, Nat.le_of_ble_eq_true rfl⟩) rfl hl.1 rfl (Nat.le_of_ble_eq_true rfl) dX12_pen_25 ⟨Nat.le_of_ble_eq_true rfl, Nat.le_of_ble_eq_true rfl⟩ (fun ad' H locs hp hw => ?_)
      subst hp
      refine W.widen (k := 0) (n := 0) (by decide) (by decide) ?_
      refine lv_aload_n hx hb dX12_pen_28 rfl (lv_at hl 0 rfl) ?_
      refine lv_iload_n hx hb dX12_pen_29 rfl (lv_at hl 1 rfl) ?_
      refine lv_iload_n hx hb dX12_pen_30 rfl (lv_at hl 2 rfl) ?_
      obtain ⟨sg14, lg15, hq16, h2⟩ := bnd2_some h
      replace h := h2
      clear h2
      refine r_cVv (As := [.int v1, .int v2]) (rest := []) C hw 0 (by decide) (ci := 12) rfl rfl (mX12_empty l D T ad  H.size v1 v2 sg11 lg12 hq16) (cwV 2 hts gX12_pen_X12_empty rfl rfl rfl (by decide +kernel) ⟨Nat.le_of_ble_eq_true rfl, Nat.le_of_ble_eq_true rfl⟩) rfl hl.1 rfl (Nat.le_of_ble_eq_true rfl) dX12_pen_31 ⟨Nat.le_of_ble_eq_true rfl, Nat.le_of_ble_eq_true rfl⟩ (fun ad' H locs hp hw => ?_)
      subst hp
      refine W.widen (k := 0) (n := 0) (by decide) (by decide) ?_
      refine lv_lconst (v := (0 : Int64)) hx hb dX12_pen_34 (by decide) ?_
      cases h
      exact r_lret C hw rfl (by decide) (by decide) dX12_pen_35
    · replace h := ite_t h c10
      refine lv_ldc2 hx hb hown (hts _ kX12_pen_c72) dX12_pen_20 ?_
      cases h
      exact r_lret C hw rfl (by decide) (by decide) dX12_pen_23
theorem mX12_pen (l : Launch) (D : va_G) (T : Nat → ClassId) (ad : Nat → Nat)  (sz : Nat)   (v1 : Int32) (v2 : Int32) (sg : Sg) (lg : Lg) {ro : Int64} {so : Sg} {lo : Lg} (h : fX12_pen v1 v2 sg lg = some (ro, so, lo)) : Met l yX12_pen wsX12_pen rmX12_pen (PreZ ZM D vwCl T (tysM T) ad sg lg false [] [.ref (ad 0), .int v1, .int v2] sz) (QL ZM D vwCl T (tysM T) (va_A (zwd ZM T ad sg lg) sz) (fun z => ad = z) ro so lo) 0 0 (va_A (zwd ZM T ad sg lg) sz) :=
  metZ [.ref (ad 0), .int v1, .int v2] sz (by decide) rfl (Nat.le_of_ble_eq_true rfl) (fun p e s m below meth c ls C hw hl => tX12_pen_0 C v1 v2 sg lg _ _ _ hw hl h)
-- PeckYardModel.width(I)I
def rmX12_width : Room := { frames := 0, cells := 0, slots := 0, locals := 0 }
theorem kX12_width_f7 : Cond.fieldLink RX12 7 "PeckYardModel" "s" "[I" ∈ wsX12_width := by decide +kernel
theorem kX12_width_iX12 : ∀ w ∈ u_ws RX12 TX12 18, w ∈ wsX12_width := by decide +kernel
def fX12_width  (v1 : Int32) (sg : Sg) (lg : Lg) : Option (Int32 × Sg × Lg) :=
  lt ((37 : Int32) + v1) (fun x1 => gin x1 193 (some ((sg 1 x1.toNatClampNeg), sg, lg)))
set_option maxHeartbeats 4000000 in
set_option maxRecDepth 100000 in
theorem tX12_width_0 (C : Cx p s m args meth c cX12_width 2 RX12 wsX12_width (some .int) D vwCl (tysM T) A false []) {ro : Int32} {so : Sg} {lo : Lg}   : ∀ (v1 : Int32) (sg : Sg) (lg : Lg), ∀ (H : Heap) (locs : List Loc) (ls : Array Slot), WS ZM D vwCl T ad sg lg A s.heap H locs → lv_has ls 2 [(0, .ref (ad 0)), (1, .int v1)] → fX12_width v1 sg lg = some (ro, so, lo) → W p l e rmX12_width s m args below meth c H locs 0 0 (MQ below (QI ZM D vwCl T (tysM T) A (fun z => ad = z) ro so lo) args s 0 0 A) (F0 m 0 ls []) := by
  obtain ⟨⟨hx, hb, hml, hown, hts⟩, hr, hlk, hK, hA, hsp⟩ := id C
  intro v1 sg lg H locs ls hw hl h
  unfold fX12_width at h
  refine lv_aload_n hx hb dX12_width_0 rfl (lv_at hl 0 rfl) ?_
  refine r_getR (ci := 12) (C := RX12) (U := TX12) (N := 18) hx hb hts kX12_width_iX12 hown hK hw 0 (by decide) rfl rfl 0 (by decide) 1 rfl (hts _ kX12_width_f7) (fun _ h9 => h9) dX12_width_1 ?_
  refine lv_bipush (v := (37 : Int32)) hx hb dX12_width_4 (by decide) ?_
  refine lv_iload_n hx hb dX12_width_6 rfl (lv_at hl 1 rfl) ?_
  refine lv_iadd hx hb dX12_width_7 ?_
  refine lv_topi (fun x1 ex1 => ?_)
  replace h := lt_get h x1 ex1
  have hi2 := (gin_some h).1
  replace h := (gin_some h).2
  refine r_iald hx hb hK hw 1 0 193 (by decide) rfl rfl rfl hi2 dX12_width_8 ?_
  cases h
  exact r_iret C hw rfl (by decide) (by decide) dX12_width_9
theorem mX12_width (l : Launch) (D : va_G) (T : Nat → ClassId) (ad : Nat → Nat)  (sz : Nat)   (v1 : Int32) (sg : Sg) (lg : Lg) {ro : Int32} {so : Sg} {lo : Lg} (h : fX12_width v1 sg lg = some (ro, so, lo)) : Met l yX12_width wsX12_width rmX12_width (PreZ ZM D vwCl T (tysM T) ad sg lg false [] [.ref (ad 0), .int v1] sz) (QI ZM D vwCl T (tysM T) (va_A (zwd ZM T ad sg lg) sz) (fun z => ad = z) ro so lo) 0 0 (va_A (zwd ZM T ad sg lg) sz) :=
  metZ [.ref (ad 0), .int v1] sz (by decide) rfl (Nat.le_of_ble_eq_true rfl) (fun p e s m below meth c ls C hw hl => tX12_width_0 C v1 sg lg _ _ _ hw hl h)
-- PeckYardModel.peckOf(II)I
def rmX12_peckOf : Room := { frames := 0, cells := 0, slots := 0, locals := 0 }
theorem kX12_peckOf_f7 : Cond.fieldLink RX12 7 "PeckYardModel" "s" "[I" ∈ wsX12_peckOf := by decide +kernel
theorem kX12_peckOf_iX12 : ∀ w ∈ u_ws RX12 TX12 18, w ∈ wsX12_peckOf := by decide +kernel
def fX12_peckOf  (v1 : Int32) (v2 : Int32) (sg : Sg) (lg : Lg) : Option (Int32 × Sg × Lg) :=
  lt (((49 : Int32) + ((12 : Int32) * v1)) + v2) (fun x1 => gin x1 193 (some ((sg 1 x1.toNatClampNeg), sg, lg)))
set_option maxHeartbeats 4000000 in
set_option maxRecDepth 100000 in
theorem tX12_peckOf_0 (C : Cx p s m args meth c cX12_peckOf 3 RX12 wsX12_peckOf (some .int) D vwCl (tysM T) A false []) {ro : Int32} {so : Sg} {lo : Lg}   : ∀ (v1 : Int32) (v2 : Int32) (sg : Sg) (lg : Lg), ∀ (H : Heap) (locs : List Loc) (ls : Array Slot), WS ZM D vwCl T ad sg lg A s.heap H locs → lv_has ls 3 [(0, .ref (ad 0)), (1, .int v1), (2, .int v2)] → fX12_peckOf v1 v2 sg lg = some (ro, so, lo) → W p l e rmX12_peckOf s m args below meth c H locs 0 0 (MQ below (QI ZM D vwCl T (tysM T) A (fun z => ad = z) ro so lo) args s 0 0 A) (F0 m 0 ls []) := by
  obtain ⟨⟨hx, hb, hml, hown, hts⟩, hr, hlk, hK, hA, hsp⟩ := id C
  intro v1 v2 sg lg H locs ls hw hl h
  unfold fX12_peckOf at h
  refine lv_aload_n hx hb dX12_peckOf_0 rfl (lv_at hl 0 rfl) ?_
  refine r_getR (ci := 12) (C := RX12) (U := TX12) (N := 18) hx hb hts kX12_peckOf_iX12 hown hK hw 0 (by decide) rfl rfl 0 (by decide) 1 rfl (hts _ kX12_peckOf_f7) (fun _ h9 => h9) dX12_peckOf_1 ?_
  refine lv_bipush (v := (49 : Int32)) hx hb dX12_peckOf_4 (by decide) ?_
  refine lv_bipush (v := (12 : Int32)) hx hb dX12_peckOf_6 (by decide) ?_
  refine lv_iload_n hx hb dX12_peckOf_8 rfl (lv_at hl 1 rfl) ?_
  refine lv_imul hx hb dX12_peckOf_9 ?_
  refine lv_iadd hx hb dX12_peckOf_10 ?_
  refine lv_iload_n hx hb dX12_peckOf_11 rfl (lv_at hl 2 rfl) ?_
  refine lv_iadd hx hb dX12_peckOf_12 ?_
  refine lv_topi (fun x1 ex1 => ?_)
  replace h := lt_get h x1 ex1
  have hi2 := (gin_some h).1
  replace h := (gin_some h).2
  refine r_iald hx hb hK hw 1 0 193 (by decide) rfl rfl rfl hi2 dX12_peckOf_13 ?_
  cases h
  exact r_iret C hw rfl (by decide) (by decide) dX12_peckOf_14
theorem mX12_peckOf (l : Launch) (D : va_G) (T : Nat → ClassId) (ad : Nat → Nat)  (sz : Nat)   (v1 : Int32) (v2 : Int32) (sg : Sg) (lg : Lg) {ro : Int32} {so : Sg} {lo : Lg} (h : fX12_peckOf v1 v2 sg lg = some (ro, so, lo)) : Met l yX12_peckOf wsX12_peckOf rmX12_peckOf (PreZ ZM D vwCl T (tysM T) ad sg lg false [] [.ref (ad 0), .int v1, .int v2] sz) (QI ZM D vwCl T (tysM T) (va_A (zwd ZM T ad sg lg) sz) (fun z => ad = z) ro so lo) 0 0 (va_A (zwd ZM T ad sg lg) sz) :=
  metZ [.ref (ad 0), .int v1, .int v2] sz (by decide) rfl (Nat.le_of_ble_eq_true rfl) (fun p e s m below meth c ls C hw hl => tX12_peckOf_0 C v1 v2 sg lg _ _ _ hw hl h)
-- PeckYardModel.peck(IIJ)J
def rmX12_peck : Room := { frames := 2, cells := 0, slots := 0, locals := 46 }
theorem kX12_peck_c72 : Cond.constantLong RX12 72 (-2000000001) ∈ wsX12_peck := by decide +kernel
theorem kX12_peck_c64 : Cond.constantLong RX12 64 (11) ∈ wsX12_peck := by decide +kernel
theorem kX12_peck_c103 : Cond.constantLong RX12 103 (1000000) ∈ wsX12_peck := by decide +kernel
theorem kX12_peck_f7 : Cond.fieldLink RX12 7 "PeckYardModel" "s" "[I" ∈ wsX12_peck := by decide +kernel
theorem kX12_peck_iX12 : ∀ w ∈ u_ws RX12 TX12 18, w ∈ wsX12_peck := by decide +kernel
theorem kX12_peck_c61 : Cond.constantLong RX12 61 (-2000000002) ∈ wsX12_peck := by decide +kernel
theorem kX12_peck_c101 : Cond.constantLong RX12 101 (32767) ∈ wsX12_peck := by decide +kernel
theorem kX12_peck_c99 : Cond.constantLong RX12 99 (127) ∈ wsX12_peck := by decide +kernel
def fX12_peck_61  (v1 : Int32) (v2 : Int32) (v3 : Int64) (w0 : Int64) (sg : Sg) (lg : Lg) : Option (Int64 × Sg × Lg) :=
  bnd3 (fX12_isIn v3 (0 : Int64) w0 sg lg) (fun y1 sg2 lg3 => (if y1 = 0 then some ((-2000000001 : Int64), sg2, lg3) else bnd3 (fX12_width v1 sg2 lg3) (fun y6 sg7 lg8 => (if 0 ≤ y6 then bnd2 (fX12_keep sg7 lg8) (fun sg11 lg12 => bnd3 (fX12_peckOf v1 v2 sg11 lg12) (fun y14 sg15 lg16 => gin (((49 : Int32) + ((12 : Int32) * v1)) + v2) 193 (lt (up2 sg15 1 (((49 : Int32) + ((12 : Int32) * v1)) + v2).toNatClampNeg v3.toInt32) (fun sg19 => some (y14.toInt64, sg19, lg16))))) else some ((-2000000002 : Int64), sg7, lg8)))))
set_option maxHeartbeats 4000000 in
set_option maxRecDepth 100000 in
theorem tX12_peck_61 (C : Cx p s m args meth c cX12_peck 9 RX12 wsX12_peck (some .long) D vwCl (tysM T) A false []) {ro : Int64} {so : Sg} {lo : Lg}   : ∀ (v1 : Int32) (v2 : Int32) (v3 : Int64) (w0 : Int64) (sg : Sg) (lg : Lg), ∀ (H : Heap) (locs : List Loc) (ls : Array Slot), WS ZM D vwCl T ad sg lg A s.heap H locs → lv_has ls 9 [(0, .ref (ad 0)), (1, .int v1), (2, .int v2), (3, .long v3)] → fX12_peck_61 v1 v2 v3 w0 sg lg = some (ro, so, lo) → W p l e rmX12_peck s m args below meth c H locs 0 0 (MQ below (QL ZM D vwCl T (tysM T) A (fun z => ad = z) ro so lo) args s 0 0 A) (F0 m 61 ls [.long w0]) := by
  obtain ⟨⟨hx, hb, hml, hown, hts⟩, hr, hlk, hK, hA, hsp⟩ := id C
  intro v1 v2 v3 w0 sg lg H locs ls hw hl h
  unfold fX12_peck_61 at h
  refine lv_lstore (lv' := [(5, .long w0), (0, .ref (ad 0)), (1, .int v1), (2, .int v2), (3, .long v3)]) hx hb dX12_peck_61 hl (by decide) rfl (fun ls hl => ?_)
  refine lv_lload_n hx hb dX12_peck_63 rfl (lv_at hl 4 rfl) ?_
  refine lv_lconst (v := (0 : Int64)) hx hb dX12_peck_64 (by decide) ?_
  refine lv_lload hx hb dX12_peck_65 (lv_at hl 0 rfl) ?_
  obtain ⟨y1, sg2, lg3, hq4, h2⟩ := bnd3_some h
  replace h := h2
  clear h2
  refine r_cSi (As := [.long v3, .long (0 : Int64), .long w0]) (rest := []) C hw (mX12_isIn l D T ad  H.size v3 (0 : Int64) w0 sg lg hq4) (va_cwS 3 hts gX12_peck_X12_isIn rfl rfl rfl (by decide +kernel) ⟨Nat.le_of_ble_eq_true rfl, Nat.le_of_ble_eq_true rfl⟩) rfl hl.1 rfl (Nat.le_of_ble_eq_true rfl) dX12_peck_67 ⟨Nat.le_of_ble_eq_true rfl, Nat.le_of_ble_eq_true rfl⟩ (fun ad' H locs hp hw => ?_)
  subst hp
  refine W.widen (k := 0) (n := 0) (by decide) (by decide) ?_
  refine lv_if_ne (tgt := 77) hx hb dX12_peck_70 (by decide) (fun c5 => ?_) (fun c5 => ?_)
  · replace h := ite_f h c5
    refine lv_aload_n hx hb dX12_peck_77 rfl (lv_at hl 1 rfl) ?_
    refine lv_iload_n hx hb dX12_peck_78 rfl (lv_at hl 2 rfl) ?_
    obtain ⟨y6, sg7, lg8, hq9, h2⟩ := bnd3_some h
    replace h := h2
    clear h2
    refine r_cVi (As := [.int v1]) (rest := []) C hw 0 (by decide) (ci := 12) rfl rfl (mX12_width l D T ad  H.size v1 sg2 lg3 hq9) (cwV 1 hts gX12_peck_X12_width rfl rfl rfl (by decide +kernel) ⟨Nat.le_of_ble_eq_true rfl, Nat.le_of_ble_eq_true rfl⟩) rfl hl.1 rfl (Nat.le_of_ble_eq_true rfl) dX12_peck_79 ⟨Nat.le_of_ble_eq_true rfl, Nat.le_of_ble_eq_true rfl⟩ (fun ad' H locs hp hw => ?_)
    subst hp
    refine W.widen (k := 0) (n := 0) (by decide) (by decide) ?_
    refine lv_if_ge (tgt := 89) hx hb dX12_peck_82 (by decide) (fun c10 => ?_) (fun c10 => ?_)
    · replace h := ite_t h c10
      refine lv_aload_n hx hb dX12_peck_89 rfl (lv_at hl 1 rfl) ?_
      obtain ⟨sg11, lg12, hq13, h2⟩ := bnd2_some h
      replace h := h2
      clear h2
      refine r_cVv (As := []) (rest := []) C hw 0 (by decide) (ci := 12) rfl rfl (mX12_keep l D T ad  H.size sg7 lg8 hq13) (cwV 0 hts gX12_peck_X12_keep rfl rfl rfl (by decide +kernel) ⟨Nat.le_of_ble_eq_true rfl, Nat.le_of_ble_eq_true rfl⟩) rfl hl.1 rfl (Nat.le_of_ble_eq_true rfl) dX12_peck_90 ⟨Nat.le_of_ble_eq_true rfl, Nat.le_of_ble_eq_true rfl⟩ (fun ad' H locs hp hw => ?_)
      subst hp
      refine W.widen (k := 0) (n := 0) (by decide) (by decide) ?_
      refine lv_aload_n hx hb dX12_peck_93 rfl (lv_at hl 1 rfl) ?_
      refine lv_iload_n hx hb dX12_peck_94 rfl (lv_at hl 2 rfl) ?_
      refine lv_iload_n hx hb dX12_peck_95 rfl (lv_at hl 3 rfl) ?_
      obtain ⟨y14, sg15, lg16, hq17, h2⟩ := bnd3_some h
      replace h := h2
      clear h2
      refine r_cVi (As := [.int v1, .int v2]) (rest := []) C hw 0 (by decide) (ci := 12) rfl rfl (mX12_peckOf l D T ad  H.size v1 v2 sg11 lg12 hq17) (cwV 2 hts gX12_peck_X12_peckOf rfl rfl rfl (by decide +kernel) ⟨Nat.le_of_ble_eq_true rfl, Nat.le_of_ble_eq_true rfl⟩) rfl hl.1 rfl (Nat.le_of_ble_eq_true rfl) dX12_peck_96 ⟨Nat.le_of_ble_eq_true rfl, Nat.le_of_ble_eq_true rfl⟩ (fun ad' H locs hp hw => ?_)
      subst hp
      refine W.widen (k := 0) (n := 0) (by decide) (by decide) ?_
      refine lv_i2l (v := y14.toInt64) hx hb dX12_peck_99 rfl ?_
      refine lv_lstore (lv' := [(7, .long y14.toInt64), (5, .long w0), (0, .ref (ad 0)), (1, .int v1), (2, .int v2), (3, .long v3)]) hx hb dX12_peck_100 hl (by decide) rfl (fun ls hl => ?_)
      refine lv_aload_n hx hb dX12_peck_102 rfl (lv_at hl 2 rfl) ?_
      refine r_getR (ci := 12) (C := RX12) (U := TX12) (N := 18) hx hb hts kX12_peck_iX12 hown hK hw 0 (by decide) rfl rfl 0 (by decide) 1 rfl (hts _ kX12_peck_f7) (fun _ h9 => h9) dX12_peck_103 ?_
      refine lv_bipush (v := (49 : Int32)) hx hb dX12_peck_106 (by decide) ?_
      refine lv_bipush (v := (12 : Int32)) hx hb dX12_peck_108 (by decide) ?_
      refine lv_iload_n hx hb dX12_peck_110 rfl (lv_at hl 3 rfl) ?_
      refine lv_imul hx hb dX12_peck_111 ?_
      refine lv_iadd hx hb dX12_peck_112 ?_
      refine lv_iload_n hx hb dX12_peck_113 rfl (lv_at hl 4 rfl) ?_
      refine lv_iadd hx hb dX12_peck_114 ?_
      refine lv_lload_n hx hb dX12_peck_115 rfl (lv_at hl 5 rfl) ?_
      refine lv_l2i (v := v3.toInt32) hx hb dX12_peck_116 rfl ?_
      have hi18 := (gin_some h).1
      replace h := (gin_some h).2
      refine r_iast ZM_ok hx hb hK hw 1 0 193 (by decide) rfl rfl rfl hi18 dX12_peck_117 (fun H locs sg19 esg19 hw => ?_)
      replace h := lt_get h sg19 esg19
      refine lv_lload hx hb dX12_peck_118 (lv_at hl 0 rfl) ?_
      cases h
      exact r_lret C hw rfl (by decide) (by decide) dX12_peck_120
    · replace h := ite_f h c10
      refine lv_ldc2 hx hb hown (hts _ kX12_peck_c61) dX12_peck_85 ?_
      cases h
      exact r_lret C hw rfl (by decide) (by decide) dX12_peck_88
  · replace h := ite_t h c5
    refine lv_ldc2 hx hb hown (hts _ kX12_peck_c72) dX12_peck_73 ?_
    cases h
    exact r_lret C hw rfl (by decide) (by decide) dX12_peck_76
def fX12_peck  (v1 : Int32) (v2 : Int32) (v3 : Int64) (sg : Sg) (lg : Lg) : Option (Int64 × Sg × Lg) :=
  bnd3 (fX12_isHen v1 sg lg) (fun y1 sg2 lg3 => (if y1 = 0 then some ((-2000000001 : Int64), sg2, lg3) else bnd3 (fX12_isIn v2.toInt64 (0 : Int64) (11 : Int64) sg2 lg3) (fun y6 sg7 lg8 => (if y6 = 0 then some ((-2000000001 : Int64), sg7, lg8) else (if v2 = v1 then some ((-2000000001 : Int64), sg7, lg8) else bnd3 (fX12_width v1 sg7 lg8) (fun y12 sg13 lg14 => (if y12 = 0 then fX12_peck_61 v1 v2 v3 (127 : Int64) sg13 lg14 else bnd3 (fX12_width v1 sg13 lg14) (fun y17 sg18 lg19 => (if y17 = (1 : Int32) then fX12_peck_61 v1 v2 v3 (32767 : Int64) sg18 lg19 else fX12_peck_61 v1 v2 v3 (1000000 : Int64) sg18 lg19)))))))))
set_option maxHeartbeats 4000000 in
set_option maxRecDepth 100000 in
theorem tX12_peck_0 (C : Cx p s m args meth c cX12_peck 9 RX12 wsX12_peck (some .long) D vwCl (tysM T) A false []) {ro : Int64} {so : Sg} {lo : Lg}   : ∀ (v1 : Int32) (v2 : Int32) (v3 : Int64) (sg : Sg) (lg : Lg), ∀ (H : Heap) (locs : List Loc) (ls : Array Slot), WS ZM D vwCl T ad sg lg A s.heap H locs → lv_has ls 9 [(0, .ref (ad 0)), (1, .int v1), (2, .int v2), (3, .long v3)] → fX12_peck v1 v2 v3 sg lg = some (ro, so, lo) → W p l e rmX12_peck s m args below meth c H locs 0 0 (MQ below (QL ZM D vwCl T (tysM T) A (fun z => ad = z) ro so lo) args s 0 0 A) (F0 m 0 ls []) := by
  obtain ⟨⟨hx, hb, hml, hown, hts⟩, hr, hlk, hK, hA, hsp⟩ := id C
  intro v1 v2 v3 sg lg H locs ls hw hl h
  unfold fX12_peck at h
  refine lv_aload_n hx hb dX12_peck_0 rfl (lv_at hl 0 rfl) ?_
  refine lv_iload_n hx hb dX12_peck_1 rfl (lv_at hl 1 rfl) ?_
  obtain ⟨y1, sg2, lg3, hq4, h2⟩ := bnd3_some h
  replace h := h2
  clear h2
  refine r_cVi (As := [.int v1]) (rest := []) C hw 0 (by decide) (ci := 12) rfl rfl (mX12_isHen l D T ad  H.size v1 sg lg hq4) (cwV 1 hts gX12_peck_X12_isHen rfl rfl rfl (by decide +kernel) ⟨Nat.le_of_ble_eq_true rfl, Nat.le_of_ble_eq_true rfl⟩) rfl hl.1 rfl (Nat.le_of_ble_eq_true rfl) dX12_peck_2 ⟨Nat.le_of_ble_eq_true rfl, Nat.le_of_ble_eq_true rfl⟩ (fun ad' H locs hp hw => ?_)
  subst hp
  refine W.widen (k := 0) (n := 0) (by decide) (by decide) ?_
  refine lv_if_eq (tgt := 25) hx hb dX12_peck_5 (by decide) (fun c5 => ?_) (fun c5 => ?_)
  · replace h := ite_t h c5
    refine lv_ldc2 hx hb hown (hts _ kX12_peck_c72) dX12_peck_25 ?_
    cases h
    exact r_lret C hw rfl (by decide) (by decide) dX12_peck_28
  · replace h := ite_f h c5
    refine lv_iload_n hx hb dX12_peck_8 rfl (lv_at hl 2 rfl) ?_
    refine lv_i2l (v := v2.toInt64) hx hb dX12_peck_9 rfl ?_
    refine lv_lconst (v := (0 : Int64)) hx hb dX12_peck_10 (by decide) ?_
    refine lv_ldc2 hx hb hown (hts _ kX12_peck_c64) dX12_peck_11 ?_
    obtain ⟨y6, sg7, lg8, hq9, h2⟩ := bnd3_some h
    replace h := h2
    clear h2
    refine r_cSi (As := [.long v2.toInt64, .long (0 : Int64), .long (11 : Int64)]) (rest := []) C hw (mX12_isIn l D T ad  H.size v2.toInt64 (0 : Int64) (11 : Int64) sg2 lg3 hq9) (va_cwS 3 hts gX12_peck_X12_isIn rfl rfl rfl (by decide +kernel) ⟨Nat.le_of_ble_eq_true rfl, Nat.le_of_ble_eq_true rfl⟩) rfl hl.1 rfl (Nat.le_of_ble_eq_true rfl) dX12_peck_14 ⟨Nat.le_of_ble_eq_true rfl, Nat.le_of_ble_eq_true rfl⟩ (fun ad' H locs hp hw => ?_)
    subst hp
    refine W.widen (k := 0) (n := 0) (by decide) (by decide) ?_
    refine lv_if_eq (tgt := 25) hx hb dX12_peck_17 (by decide) (fun c10 => ?_) (fun c10 => ?_)
    · replace h := ite_t h c10
      refine lv_ldc2 hx hb hown (hts _ kX12_peck_c72) dX12_peck_25 ?_
      cases h
      exact r_lret C hw rfl (by decide) (by decide) dX12_peck_28
    · replace h := ite_f h c10
      refine lv_iload_n hx hb dX12_peck_20 rfl (lv_at hl 2 rfl) ?_
      refine lv_iload_n hx hb dX12_peck_21 rfl (lv_at hl 1 rfl) ?_
      refine lv_icmp_ne (tgt := 29) hx hb dX12_peck_22 (by decide) (fun c11 => ?_) (fun c11 => ?_)
      · replace h := ite_f h c11
        refine lv_aload_n hx hb dX12_peck_29 rfl (lv_at hl 0 rfl) ?_
        refine lv_iload_n hx hb dX12_peck_30 rfl (lv_at hl 1 rfl) ?_
        obtain ⟨y12, sg13, lg14, hq15, h2⟩ := bnd3_some h
        replace h := h2
        clear h2
        refine r_cVi (As := [.int v1]) (rest := []) C hw 0 (by decide) (ci := 12) rfl rfl (mX12_width l D T ad  H.size v1 sg7 lg8 hq15) (cwV 1 hts gX12_peck_X12_width rfl rfl rfl (by decide +kernel) ⟨Nat.le_of_ble_eq_true rfl, Nat.le_of_ble_eq_true rfl⟩) rfl hl.1 rfl (Nat.le_of_ble_eq_true rfl) dX12_peck_31 ⟨Nat.le_of_ble_eq_true rfl, Nat.le_of_ble_eq_true rfl⟩ (fun ad' H locs hp hw => ?_)
        subst hp
        refine W.widen (k := 0) (n := 0) (by decide) (by decide) ?_
        refine lv_if_ne (tgt := 43) hx hb dX12_peck_34 (by decide) (fun c16 => ?_) (fun c16 => ?_)
        · replace h := ite_f h c16
          refine lv_aload_n hx hb dX12_peck_43 rfl (lv_at hl 0 rfl) ?_
          refine lv_iload_n hx hb dX12_peck_44 rfl (lv_at hl 1 rfl) ?_
          obtain ⟨y17, sg18, lg19, hq20, h2⟩ := bnd3_some h
          replace h := h2
          clear h2
          refine r_cVi (As := [.int v1]) (rest := []) C hw 0 (by decide) (ci := 12) rfl rfl (mX12_width l D T ad  H.size v1 sg13 lg14 hq20) (cwV 1 hts gX12_peck_X12_width rfl rfl rfl (by decide +kernel) ⟨Nat.le_of_ble_eq_true rfl, Nat.le_of_ble_eq_true rfl⟩) rfl hl.1 rfl (Nat.le_of_ble_eq_true rfl) dX12_peck_45 ⟨Nat.le_of_ble_eq_true rfl, Nat.le_of_ble_eq_true rfl⟩ (fun ad' H locs hp hw => ?_)
          subst hp
          refine W.widen (k := 0) (n := 0) (by decide) (by decide) ?_
          refine lv_iconst (v := (1 : Int32)) hx hb dX12_peck_48 (by decide) ?_
          refine lv_icmp_ne (tgt := 58) hx hb dX12_peck_49 (by decide) (fun c21 => ?_) (fun c21 => ?_)
          · replace h := ite_f h c21
            refine lv_ldc2 hx hb hown (hts _ kX12_peck_c103) dX12_peck_58 ?_
            exact tX12_peck_61 C v1 v2 v3 (1000000 : Int64) sg18 lg19 _ _ _ hw (lv_sub hl [0, 1, 2, 3] rfl) h
          · replace h := ite_t h c21
            refine lv_ldc2 hx hb hown (hts _ kX12_peck_c101) dX12_peck_52 ?_
            refine lv_goto (tgt := 61) hx hb dX12_peck_55 (by decide) ?_
            exact tX12_peck_61 C v1 v2 v3 (32767 : Int64) sg18 lg19 _ _ _ hw (lv_sub hl [0, 1, 2, 3] rfl) h
        · replace h := ite_t h c16
          refine lv_ldc2 hx hb hown (hts _ kX12_peck_c99) dX12_peck_37 ?_
          refine lv_goto (tgt := 61) hx hb dX12_peck_40 (by decide) ?_
          exact tX12_peck_61 C v1 v2 v3 (127 : Int64) sg13 lg14 _ _ _ hw (lv_sub hl [0, 1, 2, 3] rfl) h
      · replace h := ite_t h c11
        refine lv_ldc2 hx hb hown (hts _ kX12_peck_c72) dX12_peck_25 ?_
        cases h
        exact r_lret C hw rfl (by decide) (by decide) dX12_peck_28
theorem mX12_peck (l : Launch) (D : va_G) (T : Nat → ClassId) (ad : Nat → Nat)  (sz : Nat)   (v1 : Int32) (v2 : Int32) (v3 : Int64) (sg : Sg) (lg : Lg) {ro : Int64} {so : Sg} {lo : Lg} (h : fX12_peck v1 v2 v3 sg lg = some (ro, so, lo)) : Met l yX12_peck wsX12_peck rmX12_peck (PreZ ZM D vwCl T (tysM T) ad sg lg false [] [.ref (ad 0), .int v1, .int v2, .long v3] sz) (QL ZM D vwCl T (tysM T) (va_A (zwd ZM T ad sg lg) sz) (fun z => ad = z) ro so lo) 0 0 (va_A (zwd ZM T ad sg lg) sz) :=
  metZ [.ref (ad 0), .int v1, .int v2, .long v3] sz (by decide) rfl (Nat.le_of_ble_eq_true rfl) (fun p e s m below meth c ls C hw hl => tX12_peck_0 C v1 v2 v3 sg lg _ _ _ hw hl h)
-- PeckYardModel.leave(I)J
def rmX12_leave : Room := { frames := 2, cells := 0, slots := 0, locals := 46 }
theorem kX12_leave_c61 : Cond.constantLong RX12 61 (-2000000002) ∈ wsX12_leave := by decide +kernel
theorem kX12_leave_c72 : Cond.constantLong RX12 72 (-2000000001) ∈ wsX12_leave := by decide +kernel
def fX12_leave  (v1 : Int32) (sg : Sg) (lg : Lg) : Option (Int64 × Sg × Lg) :=
  bnd3 (fX12_isHen v1 sg lg) (fun y1 sg2 lg3 => (if y1 = 0 then some ((-2000000001 : Int64), sg2, lg3) else bnd3 (fX12_width v1 sg2 lg3) (fun y6 sg7 lg8 => (if 0 ≤ y6 then bnd2 (fX12_keep sg7 lg8) (fun sg11 lg12 => bnd2 (fX12_empty v1 (-1 : Int32) sg11 lg12) (fun sg14 lg15 => some ((0 : Int64), sg14, lg15))) else some ((-2000000002 : Int64), sg7, lg8)))))
set_option maxHeartbeats 4000000 in
set_option maxRecDepth 100000 in
theorem tX12_leave_0 (C : Cx p s m args meth c cX12_leave 2 RX12 wsX12_leave (some .long) D vwCl (tysM T) A false []) {ro : Int64} {so : Sg} {lo : Lg}   : ∀ (v1 : Int32) (sg : Sg) (lg : Lg), ∀ (H : Heap) (locs : List Loc) (ls : Array Slot), WS ZM D vwCl T ad sg lg A s.heap H locs → lv_has ls 2 [(0, .ref (ad 0)), (1, .int v1)] → fX12_leave v1 sg lg = some (ro, so, lo) → W p l e rmX12_leave s m args below meth c H locs 0 0 (MQ below (QL ZM D vwCl T (tysM T) A (fun z => ad = z) ro so lo) args s 0 0 A) (F0 m 0 ls []) := by
  obtain ⟨⟨hx, hb, hml, hown, hts⟩, hr, hlk, hK, hA, hsp⟩ := id C
  intro v1 sg lg H locs ls hw hl h
  unfold fX12_leave at h
  refine lv_aload_n hx hb dX12_leave_0 rfl (lv_at hl 0 rfl) ?_
  refine lv_iload_n hx hb dX12_leave_1 rfl (lv_at hl 1 rfl) ?_
  obtain ⟨y1, sg2, lg3, hq4, h2⟩ := bnd3_some h
  replace h := h2
  clear h2
  refine r_cVi (As := [.int v1]) (rest := []) C hw 0 (by decide) (ci := 12) rfl rfl (mX12_isHen l D T ad  H.size v1 sg lg hq4) (cwV 1 hts gX12_leave_X12_isHen rfl rfl rfl (by decide +kernel) ⟨Nat.le_of_ble_eq_true rfl, Nat.le_of_ble_eq_true rfl⟩) rfl hl.1 rfl (Nat.le_of_ble_eq_true rfl) dX12_leave_2 ⟨Nat.le_of_ble_eq_true rfl, Nat.le_of_ble_eq_true rfl⟩ (fun ad' H locs hp hw => ?_)
  subst hp
  refine W.widen (k := 0) (n := 0) (by decide) (by decide) ?_
  refine lv_if_ne (tgt := 12) hx hb dX12_leave_5 (by decide) (fun c5 => ?_) (fun c5 => ?_)
  · replace h := ite_f h c5
    refine lv_aload_n hx hb dX12_leave_12 rfl (lv_at hl 0 rfl) ?_
    refine lv_iload_n hx hb dX12_leave_13 rfl (lv_at hl 1 rfl) ?_
    obtain ⟨y6, sg7, lg8, hq9, h2⟩ := bnd3_some h
    replace h := h2
    clear h2
    refine r_cVi (As := [.int v1]) (rest := []) C hw 0 (by decide) (ci := 12) rfl rfl (mX12_width l D T ad  H.size v1 sg2 lg3 hq9) (cwV 1 hts gX12_leave_X12_width rfl rfl rfl (by decide +kernel) ⟨Nat.le_of_ble_eq_true rfl, Nat.le_of_ble_eq_true rfl⟩) rfl hl.1 rfl (Nat.le_of_ble_eq_true rfl) dX12_leave_14 ⟨Nat.le_of_ble_eq_true rfl, Nat.le_of_ble_eq_true rfl⟩ (fun ad' H locs hp hw => ?_)
    subst hp
    refine W.widen (k := 0) (n := 0) (by decide) (by decide) ?_
    refine lv_if_ge (tgt := 24) hx hb dX12_leave_17 (by decide) (fun c10 => ?_) (fun c10 => ?_)
    · replace h := ite_t h c10
      refine lv_aload_n hx hb dX12_leave_24 rfl (lv_at hl 0 rfl) ?_
      obtain ⟨sg11, lg12, hq13, h2⟩ := bnd2_some h
      replace h := h2
      clear h2
      refine r_cVv (As := []) (rest := []) C hw 0 (by decide) (ci := 12) rfl rfl (mX12_keep l D T ad  H.size sg7 lg8 hq13) (cwV 0 hts gX12_leave_X12_keep rfl rfl rfl (by decide +kernel) ⟨Nat.le_of_ble_eq_true rfl, Nat.le_of_ble_eq_true rfl⟩) rfl hl.1 rfl (Nat.le_of_ble_eq_true rfl) dX12_leave_25 ⟨Nat.le_of_ble_eq_true rfl, Nat.le_of_ble_eq_true rfl⟩ (fun ad' H locs hp hw => ?_)
      subst hp
      refine W.widen (k := 0) (n := 0) (by decide) (by decide) ?_
      refine lv_aload_n hx hb dX12_leave_28 rfl (lv_at hl 0 rfl) ?_
      refine lv_iload_n hx hb dX12_leave_29 rfl (lv_at hl 1 rfl) ?_
      refine lv_iconst (v := (-1 : Int32)) hx hb dX12_leave_30 (by decide) ?_
      obtain ⟨sg14, lg15, hq16, h2⟩ := bnd2_some h
      replace h := h2
      clear h2
      refine r_cVv (As := [.int v1, .int (-1 : Int32)]) (rest := []) C hw 0 (by decide) (ci := 12) rfl rfl (mX12_empty l D T ad  H.size v1 (-1 : Int32) sg11 lg12 hq16) (cwV 2 hts gX12_leave_X12_empty rfl rfl rfl (by decide +kernel) ⟨Nat.le_of_ble_eq_true rfl, Nat.le_of_ble_eq_true rfl⟩) rfl hl.1 rfl (Nat.le_of_ble_eq_true rfl) dX12_leave_31 ⟨Nat.le_of_ble_eq_true rfl, Nat.le_of_ble_eq_true rfl⟩ (fun ad' H locs hp hw => ?_)
      subst hp
      refine W.widen (k := 0) (n := 0) (by decide) (by decide) ?_
      refine lv_lconst (v := (0 : Int64)) hx hb dX12_leave_34 (by decide) ?_
      cases h
      exact r_lret C hw rfl (by decide) (by decide) dX12_leave_35
    · replace h := ite_f h c10
      refine lv_ldc2 hx hb hown (hts _ kX12_leave_c61) dX12_leave_20 ?_
      cases h
      exact r_lret C hw rfl (by decide) (by decide) dX12_leave_23
  · replace h := ite_t h c5
    refine lv_ldc2 hx hb hown (hts _ kX12_leave_c72) dX12_leave_8 ?_
    cases h
    exact r_lret C hw rfl (by decide) (by decide) dX12_leave_11
theorem mX12_leave (l : Launch) (D : va_G) (T : Nat → ClassId) (ad : Nat → Nat)  (sz : Nat)   (v1 : Int32) (sg : Sg) (lg : Lg) {ro : Int64} {so : Sg} {lo : Lg} (h : fX12_leave v1 sg lg = some (ro, so, lo)) : Met l yX12_leave wsX12_leave rmX12_leave (PreZ ZM D vwCl T (tysM T) ad sg lg false [] [.ref (ad 0), .int v1] sz) (QL ZM D vwCl T (tysM T) (va_A (zwd ZM T ad sg lg) sz) (fun z => ad = z) ro so lo) 0 0 (va_A (zwd ZM T ad sg lg) sz) :=
  metZ [.ref (ad 0), .int v1] sz (by decide) rfl (Nat.le_of_ble_eq_true rfl) (fun p e s m below meth c ls C hw hl => tX12_leave_0 C v1 sg lg _ _ _ hw hl h)
-- PeckYardModel.counts(I)Z
def rmX12_counts : Room := { frames := 2, cells := 0, slots := 0, locals := 46 }
theorem kX12_counts_f7 : Cond.fieldLink RX12 7 "PeckYardModel" "s" "[I" ∈ wsX12_counts := by decide +kernel
theorem kX12_counts_iX12 : ∀ w ∈ u_ws RX12 TX12 18, w ∈ wsX12_counts := by decide +kernel
def fX12_counts  (v1 : Int32) (sg : Sg) (lg : Lg) : Option (Int32 × Sg × Lg) :=
  bnd3 (fX12_isHen v1 sg lg) (fun y1 sg2 lg3 => (if y1 = 0 then some ((0 : Int32), sg2, lg3) else bnd3 (fX12_kind v1 sg2 lg3) (fun y6 sg7 lg8 => (if y6 = (4 : Int32) then lt ((25 : Int32) + v1) (fun x11 => gin x11 193 ((if (sg7 1 x11.toNatClampNeg) = (1 : Int32) then some ((1 : Int32), sg7, lg8) else some ((0 : Int32), sg7, lg8)))) else some ((1 : Int32), sg7, lg8)))))
set_option maxHeartbeats 4000000 in
set_option maxRecDepth 100000 in
theorem tX12_counts_0 (C : Cx p s m args meth c cX12_counts 2 RX12 wsX12_counts (some .boolean) D vwCl (tysM T) A false []) {ro : Int32} {so : Sg} {lo : Lg}   : ∀ (v1 : Int32) (sg : Sg) (lg : Lg), ∀ (H : Heap) (locs : List Loc) (ls : Array Slot), WS ZM D vwCl T ad sg lg A s.heap H locs → lv_has ls 2 [(0, .ref (ad 0)), (1, .int v1)] → fX12_counts v1 sg lg = some (ro, so, lo) → W p l e rmX12_counts s m args below meth c H locs 0 0 (MQ below (QI ZM D vwCl T (tysM T) A (fun z => ad = z) ro so lo) args s 0 0 A) (F0 m 0 ls []) := by
  obtain ⟨⟨hx, hb, hml, hown, hts⟩, hr, hlk, hK, hA, hsp⟩ := id C
  intro v1 sg lg H locs ls hw hl h
  unfold fX12_counts at h
  refine lv_aload_n hx hb dX12_counts_0 rfl (lv_at hl 0 rfl) ?_
  refine lv_iload_n hx hb dX12_counts_1 rfl (lv_at hl 1 rfl) ?_
  obtain ⟨y1, sg2, lg3, hq4, h2⟩ := bnd3_some h
  replace h := h2
  clear h2
  refine r_cVi (As := [.int v1]) (rest := []) C hw 0 (by decide) (ci := 12) rfl rfl (mX12_isHen l D T ad  H.size v1 sg lg hq4) (cwV 1 hts gX12_counts_X12_isHen rfl rfl rfl (by decide +kernel) ⟨Nat.le_of_ble_eq_true rfl, Nat.le_of_ble_eq_true rfl⟩) rfl hl.1 rfl (Nat.le_of_ble_eq_true rfl) dX12_counts_2 ⟨Nat.le_of_ble_eq_true rfl, Nat.le_of_ble_eq_true rfl⟩ (fun ad' H locs hp hw => ?_)
  subst hp
  refine W.widen (k := 0) (n := 0) (by decide) (by decide) ?_
  refine lv_if_eq (tgt := 34) hx hb dX12_counts_5 (by decide) (fun c5 => ?_) (fun c5 => ?_)
  · replace h := ite_t h c5
    refine lv_iconst (v := (0 : Int32)) hx hb dX12_counts_34 (by decide) ?_
    cases h
    exact r_zret C hw rfl (by decide) (by decide) (by decide) dX12_counts_35
  · replace h := ite_f h c5
    refine lv_aload_n hx hb dX12_counts_8 rfl (lv_at hl 0 rfl) ?_
    refine lv_iload_n hx hb dX12_counts_9 rfl (lv_at hl 1 rfl) ?_
    obtain ⟨y6, sg7, lg8, hq9, h2⟩ := bnd3_some h
    replace h := h2
    clear h2
    refine r_cVi (As := [.int v1]) (rest := []) C hw 0 (by decide) (ci := 12) rfl rfl (mX12_kind l D T ad  H.size v1 sg2 lg3 hq9) (cwV 1 hts gX12_counts_X12_kind rfl rfl rfl (by decide +kernel) ⟨Nat.le_of_ble_eq_true rfl, Nat.le_of_ble_eq_true rfl⟩) rfl hl.1 rfl (Nat.le_of_ble_eq_true rfl) dX12_counts_10 ⟨Nat.le_of_ble_eq_true rfl, Nat.le_of_ble_eq_true rfl⟩ (fun ad' H locs hp hw => ?_)
    subst hp
    refine W.widen (k := 0) (n := 0) (by decide) (by decide) ?_
    refine lv_iconst (v := (4 : Int32)) hx hb dX12_counts_13 (by decide) ?_
    refine lv_icmp_ne (tgt := 30) hx hb dX12_counts_14 (by decide) (fun c10 => ?_) (fun c10 => ?_)
    · replace h := ite_f h c10
      refine lv_iconst (v := (1 : Int32)) hx hb dX12_counts_30 (by decide) ?_
      refine lv_goto (tgt := 35) hx hb dX12_counts_31 (by decide) ?_
      cases h
      exact r_zret C hw rfl (by decide) (by decide) (by decide) dX12_counts_35
    · replace h := ite_t h c10
      refine lv_aload_n hx hb dX12_counts_17 rfl (lv_at hl 0 rfl) ?_
      refine r_getR (ci := 12) (C := RX12) (U := TX12) (N := 18) hx hb hts kX12_counts_iX12 hown hK hw 0 (by decide) rfl rfl 0 (by decide) 1 rfl (hts _ kX12_counts_f7) (fun _ h9 => h9) dX12_counts_18 ?_
      refine lv_bipush (v := (25 : Int32)) hx hb dX12_counts_21 (by decide) ?_
      refine lv_iload_n hx hb dX12_counts_23 rfl (lv_at hl 1 rfl) ?_
      refine lv_iadd hx hb dX12_counts_24 ?_
      refine lv_topi (fun x11 ex11 => ?_)
      replace h := lt_get h x11 ex11
      have hi12 := (gin_some h).1
      replace h := (gin_some h).2
      refine r_iald hx hb hK hw 1 0 193 (by decide) rfl rfl rfl hi12 dX12_counts_25 ?_
      refine lv_iconst (v := (1 : Int32)) hx hb dX12_counts_26 (by decide) ?_
      refine lv_icmp_ne (tgt := 34) hx hb dX12_counts_27 (by decide) (fun c13 => ?_) (fun c13 => ?_)
      · replace h := ite_f h c13
        refine lv_iconst (v := (0 : Int32)) hx hb dX12_counts_34 (by decide) ?_
        cases h
        exact r_zret C hw rfl (by decide) (by decide) (by decide) dX12_counts_35
      · replace h := ite_t h c13
        refine lv_iconst (v := (1 : Int32)) hx hb dX12_counts_30 (by decide) ?_
        refine lv_goto (tgt := 35) hx hb dX12_counts_31 (by decide) ?_
        cases h
        exact r_zret C hw rfl (by decide) (by decide) (by decide) dX12_counts_35
theorem mX12_counts (l : Launch) (D : va_G) (T : Nat → ClassId) (ad : Nat → Nat)  (sz : Nat)   (v1 : Int32) (sg : Sg) (lg : Lg) {ro : Int32} {so : Sg} {lo : Lg} (h : fX12_counts v1 sg lg = some (ro, so, lo)) : Met l yX12_counts wsX12_counts rmX12_counts (PreZ ZM D vwCl T (tysM T) ad sg lg false [] [.ref (ad 0), .int v1] sz) (QI ZM D vwCl T (tysM T) (va_A (zwd ZM T ad sg lg) sz) (fun z => ad = z) ro so lo) 0 0 (va_A (zwd ZM T ad sg lg) sz) :=
  metZ [.ref (ad 0), .int v1] sz (by decide) rfl (Nat.le_of_ble_eq_true rfl) (fun p e s m below meth c ls C hw hl => tX12_counts_0 C v1 sg lg _ _ _ hw hl h)
-- PeckYardModel.about(II)J
def rmX12_about : Room := { frames := 3, cells := 0, slots := 0, locals := 67 }
theorem kX12_about_c72 : Cond.constantLong RX12 72 (-2000000001) ∈ wsX12_about := by decide +kernel
theorem kX12_about_c94 : Cond.constantLong RX12 94 (3) ∈ wsX12_about := by decide +kernel
theorem kX12_about_c112 : Cond.constantLong RX12 112 (-2000000005) ∈ wsX12_about := by decide +kernel
def fX12_about  (v1 : Int32) (v2 : Int32) (sg : Sg) (lg : Lg) : Option (Int64 × Sg × Lg) :=
  bnd3 (fX12_isHen v1 sg lg) (fun y1 sg2 lg3 => (if y1 = 0 then some ((-2000000001 : Int64), sg2, lg3) else bnd3 (fX12_isIn v2.toInt64 (0 : Int64) (3 : Int64) sg2 lg3) (fun y6 sg7 lg8 => (if y6 = 0 then some ((-2000000001 : Int64), sg7, lg8) else (if v2 = 0 then bnd3 (fX12_kind v1 sg7 lg8) (fun y32 sg33 lg34 => some (y32.toInt64, sg33, lg34)) else (if v2 = (1 : Int32) then bnd3 (fX12_asks v1 sg7 lg8) (fun y28 sg29 lg30 => some (y28.toInt64, sg29, lg30)) else (if v2 = (2 : Int32) then bnd3 (fX12_counts v1 sg7 lg8) (fun y23 sg24 lg25 => (if y23 = 0 then some ((0 : Int64), sg24, lg25) else some ((1 : Int64), sg24, lg25))) else bnd3 (fX12_width v1 sg7 lg8) (fun y14 sg15 lg16 => (if 0 ≤ y14 then bnd3 (fX12_width v1 sg15 lg16) (fun y19 sg20 lg21 => some (y19.toInt64, sg20, lg21)) else some ((-2000000005 : Int64), sg15, lg16))))))))))
set_option maxHeartbeats 4000000 in
set_option maxRecDepth 100000 in
theorem tX12_about_0 (C : Cx p s m args meth c cX12_about 3 RX12 wsX12_about (some .long) D vwCl (tysM T) A false []) {ro : Int64} {so : Sg} {lo : Lg}   : ∀ (v1 : Int32) (v2 : Int32) (sg : Sg) (lg : Lg), ∀ (H : Heap) (locs : List Loc) (ls : Array Slot), WS ZM D vwCl T ad sg lg A s.heap H locs → lv_has ls 3 [(0, .ref (ad 0)), (1, .int v1), (2, .int v2)] → fX12_about v1 v2 sg lg = some (ro, so, lo) → W p l e rmX12_about s m args below meth c H locs 0 0 (MQ below (QL ZM D vwCl T (tysM T) A (fun z => ad = z) ro so lo) args s 0 0 A) (F0 m 0 ls []) := by
  obtain ⟨⟨hx, hb, hml, hown, hts⟩, hr, hlk, hK, hA, hsp⟩ := id C
  intro v1 v2 sg lg H locs ls hw hl h
  unfold fX12_about at h
  refine lv_aload_n hx hb dX12_about_0 rfl (lv_at hl 0 rfl) ?_
  refine lv_iload_n hx hb dX12_about_1 rfl (lv_at hl 1 rfl) ?_
  obtain ⟨y1, sg2, lg3, hq4, h2⟩ := bnd3_some h
  replace h := h2
  clear h2
  refine r_cVi (As := [.int v1]) (rest := []) C hw 0 (by decide) (ci := 12) rfl rfl (mX12_isHen l D T ad  H.size v1 sg lg hq4) (cwV 1 hts gX12_about_X12_isHen rfl rfl rfl (by decide +kernel) ⟨Nat.le_of_ble_eq_true rfl, Nat.le_of_ble_eq_true rfl⟩) rfl hl.1 rfl (Nat.le_of_ble_eq_true rfl) dX12_about_2 ⟨Nat.le_of_ble_eq_true rfl, Nat.le_of_ble_eq_true rfl⟩ (fun ad' H locs hp hw => ?_)
  subst hp
  refine W.widen (k := 0) (n := 0) (by decide) (by decide) ?_
  refine lv_if_eq (tgt := 20) hx hb dX12_about_5 (by decide) (fun c5 => ?_) (fun c5 => ?_)
  · replace h := ite_t h c5
    refine lv_ldc2 hx hb hown (hts _ kX12_about_c72) dX12_about_20 ?_
    cases h
    exact r_lret C hw rfl (by decide) (by decide) dX12_about_23
  · replace h := ite_f h c5
    refine lv_iload_n hx hb dX12_about_8 rfl (lv_at hl 2 rfl) ?_
    refine lv_i2l (v := v2.toInt64) hx hb dX12_about_9 rfl ?_
    refine lv_lconst (v := (0 : Int64)) hx hb dX12_about_10 (by decide) ?_
    refine lv_ldc2 hx hb hown (hts _ kX12_about_c94) dX12_about_11 ?_
    obtain ⟨y6, sg7, lg8, hq9, h2⟩ := bnd3_some h
    replace h := h2
    clear h2
    refine r_cSi (As := [.long v2.toInt64, .long (0 : Int64), .long (3 : Int64)]) (rest := []) C hw (mX12_isIn l D T ad  H.size v2.toInt64 (0 : Int64) (3 : Int64) sg2 lg3 hq9) (va_cwS 3 hts gX12_about_X12_isIn rfl rfl rfl (by decide +kernel) ⟨Nat.le_of_ble_eq_true rfl, Nat.le_of_ble_eq_true rfl⟩) rfl hl.1 rfl (Nat.le_of_ble_eq_true rfl) dX12_about_14 ⟨Nat.le_of_ble_eq_true rfl, Nat.le_of_ble_eq_true rfl⟩ (fun ad' H locs hp hw => ?_)
    subst hp
    refine W.widen (k := 0) (n := 0) (by decide) (by decide) ?_
    refine lv_if_ne (tgt := 24) hx hb dX12_about_17 (by decide) (fun c10 => ?_) (fun c10 => ?_)
    · replace h := ite_f h c10
      refine lv_iload_n hx hb dX12_about_24 rfl (lv_at hl 2 rfl) ?_
      refine lv_if_ne (tgt := 37) hx hb dX12_about_25 (by decide) (fun c11 => ?_) (fun c11 => ?_)
      · replace h := ite_f h c11
        refine lv_iload_n hx hb dX12_about_37 rfl (lv_at hl 2 rfl) ?_
        refine lv_iconst (v := (1 : Int32)) hx hb dX12_about_38 (by decide) ?_
        refine lv_icmp_ne (tgt := 51) hx hb dX12_about_39 (by decide) (fun c12 => ?_) (fun c12 => ?_)
        · replace h := ite_f h c12
          refine lv_iload_n hx hb dX12_about_51 rfl (lv_at hl 2 rfl) ?_
          refine lv_iconst (v := (2 : Int32)) hx hb dX12_about_52 (by decide) ?_
          refine lv_icmp_ne (tgt := 72) hx hb dX12_about_53 (by decide) (fun c13 => ?_) (fun c13 => ?_)
          · replace h := ite_f h c13
            refine lv_aload_n hx hb dX12_about_72 rfl (lv_at hl 0 rfl) ?_
            refine lv_iload_n hx hb dX12_about_73 rfl (lv_at hl 1 rfl) ?_
            obtain ⟨y14, sg15, lg16, hq17, h2⟩ := bnd3_some h
            replace h := h2
            clear h2
            refine r_cVi (As := [.int v1]) (rest := []) C hw 0 (by decide) (ci := 12) rfl rfl (mX12_width l D T ad  H.size v1 sg7 lg8 hq17) (cwV 1 hts gX12_about_X12_width rfl rfl rfl (by decide +kernel) ⟨Nat.le_of_ble_eq_true rfl, Nat.le_of_ble_eq_true rfl⟩) rfl hl.1 rfl (Nat.le_of_ble_eq_true rfl) dX12_about_74 ⟨Nat.le_of_ble_eq_true rfl, Nat.le_of_ble_eq_true rfl⟩ (fun ad' H locs hp hw => ?_)
            subst hp
            refine W.widen (k := 0) (n := 0) (by decide) (by decide) ?_
            refine lv_if_ge (tgt := 86) hx hb dX12_about_77 (by decide) (fun c18 => ?_) (fun c18 => ?_)
            · replace h := ite_t h c18
              refine lv_aload_n hx hb dX12_about_86 rfl (lv_at hl 0 rfl) ?_
              refine lv_iload_n hx hb dX12_about_87 rfl (lv_at hl 1 rfl) ?_
              obtain ⟨y19, sg20, lg21, hq22, h2⟩ := bnd3_some h
              replace h := h2
              clear h2
              refine r_cVi (As := [.int v1]) (rest := []) C hw 0 (by decide) (ci := 12) rfl rfl (mX12_width l D T ad  H.size v1 sg15 lg16 hq22) (cwV 1 hts gX12_about_X12_width rfl rfl rfl (by decide +kernel) ⟨Nat.le_of_ble_eq_true rfl, Nat.le_of_ble_eq_true rfl⟩) rfl hl.1 rfl (Nat.le_of_ble_eq_true rfl) dX12_about_88 ⟨Nat.le_of_ble_eq_true rfl, Nat.le_of_ble_eq_true rfl⟩ (fun ad' H locs hp hw => ?_)
              subst hp
              refine W.widen (k := 0) (n := 0) (by decide) (by decide) ?_
              refine lv_i2l (v := y19.toInt64) hx hb dX12_about_91 rfl ?_
              cases h
              exact r_lret C hw rfl (by decide) (by decide) dX12_about_92
            · replace h := ite_f h c18
              refine lv_ldc2 hx hb hown (hts _ kX12_about_c112) dX12_about_80 ?_
              refine lv_goto (tgt := 92) hx hb dX12_about_83 (by decide) ?_
              cases h
              exact r_lret C hw rfl (by decide) (by decide) dX12_about_92
          · replace h := ite_t h c13
            refine lv_aload_n hx hb dX12_about_56 rfl (lv_at hl 0 rfl) ?_
            refine lv_iload_n hx hb dX12_about_57 rfl (lv_at hl 1 rfl) ?_
            obtain ⟨y23, sg24, lg25, hq26, h2⟩ := bnd3_some h
            replace h := h2
            clear h2
            refine r_cVi (As := [.int v1]) (rest := []) C hw 0 (by decide) (ci := 12) rfl rfl (mX12_counts l D T ad  H.size v1 sg7 lg8 hq26) (cwV 1 hts gX12_about_X12_counts rfl rfl rfl (by decide +kernel) ⟨Nat.le_of_ble_eq_true rfl, Nat.le_of_ble_eq_true rfl⟩) rfl hl.1 rfl (Nat.le_of_ble_eq_true rfl) dX12_about_58 ⟨Nat.le_of_ble_eq_true rfl, Nat.le_of_ble_eq_true rfl⟩ (fun ad' H locs hp hw => ?_)
            subst hp
            refine W.widen (k := 0) (n := 0) (by decide) (by decide) ?_
            refine lv_if_eq (tgt := 68) hx hb dX12_about_61 (by decide) (fun c27 => ?_) (fun c27 => ?_)
            · replace h := ite_t h c27
              refine lv_lconst (v := (0 : Int64)) hx hb dX12_about_68 (by decide) ?_
              refine lv_goto (tgt := 92) hx hb dX12_about_69 (by decide) ?_
              cases h
              exact r_lret C hw rfl (by decide) (by decide) dX12_about_92
            · replace h := ite_f h c27
              refine lv_lconst (v := (1 : Int64)) hx hb dX12_about_64 (by decide) ?_
              refine lv_goto (tgt := 92) hx hb dX12_about_65 (by decide) ?_
              cases h
              exact r_lret C hw rfl (by decide) (by decide) dX12_about_92
        · replace h := ite_t h c12
          refine lv_aload_n hx hb dX12_about_42 rfl (lv_at hl 0 rfl) ?_
          refine lv_iload_n hx hb dX12_about_43 rfl (lv_at hl 1 rfl) ?_
          obtain ⟨y28, sg29, lg30, hq31, h2⟩ := bnd3_some h
          replace h := h2
          clear h2
          refine r_cVi (As := [.int v1]) (rest := []) C hw 0 (by decide) (ci := 12) rfl rfl (mX12_asks l D T ad  H.size v1 sg7 lg8 hq31) (cwV 1 hts gX12_about_X12_asks rfl rfl rfl (by decide +kernel) ⟨Nat.le_of_ble_eq_true rfl, Nat.le_of_ble_eq_true rfl⟩) rfl hl.1 rfl (Nat.le_of_ble_eq_true rfl) dX12_about_44 ⟨Nat.le_of_ble_eq_true rfl, Nat.le_of_ble_eq_true rfl⟩ (fun ad' H locs hp hw => ?_)
          subst hp
          refine W.widen (k := 0) (n := 0) (by decide) (by decide) ?_
          refine lv_i2l (v := y28.toInt64) hx hb dX12_about_47 rfl ?_
          refine lv_goto (tgt := 92) hx hb dX12_about_48 (by decide) ?_
          cases h
          exact r_lret C hw rfl (by decide) (by decide) dX12_about_92
      · replace h := ite_t h c11
        refine lv_aload_n hx hb dX12_about_28 rfl (lv_at hl 0 rfl) ?_
        refine lv_iload_n hx hb dX12_about_29 rfl (lv_at hl 1 rfl) ?_
        obtain ⟨y32, sg33, lg34, hq35, h2⟩ := bnd3_some h
        replace h := h2
        clear h2
        refine r_cVi (As := [.int v1]) (rest := []) C hw 0 (by decide) (ci := 12) rfl rfl (mX12_kind l D T ad  H.size v1 sg7 lg8 hq35) (cwV 1 hts gX12_about_X12_kind rfl rfl rfl (by decide +kernel) ⟨Nat.le_of_ble_eq_true rfl, Nat.le_of_ble_eq_true rfl⟩) rfl hl.1 rfl (Nat.le_of_ble_eq_true rfl) dX12_about_30 ⟨Nat.le_of_ble_eq_true rfl, Nat.le_of_ble_eq_true rfl⟩ (fun ad' H locs hp hw => ?_)
        subst hp
        refine W.widen (k := 0) (n := 0) (by decide) (by decide) ?_
        refine lv_i2l (v := y32.toInt64) hx hb dX12_about_33 rfl ?_
        refine lv_goto (tgt := 92) hx hb dX12_about_34 (by decide) ?_
        cases h
        exact r_lret C hw rfl (by decide) (by decide) dX12_about_92
    · replace h := ite_t h c10
      refine lv_ldc2 hx hb hown (hts _ kX12_about_c72) dX12_about_20 ?_
      cases h
      exact r_lret C hw rfl (by decide) (by decide) dX12_about_23
theorem mX12_about (l : Launch) (D : va_G) (T : Nat → ClassId) (ad : Nat → Nat)  (sz : Nat)   (v1 : Int32) (v2 : Int32) (sg : Sg) (lg : Lg) {ro : Int64} {so : Sg} {lo : Lg} (h : fX12_about v1 v2 sg lg = some (ro, so, lo)) : Met l yX12_about wsX12_about rmX12_about (PreZ ZM D vwCl T (tysM T) ad sg lg false [] [.ref (ad 0), .int v1, .int v2] sz) (QL ZM D vwCl T (tysM T) (va_A (zwd ZM T ad sg lg) sz) (fun z => ad = z) ro so lo) 0 0 (va_A (zwd ZM T ad sg lg) sz) :=
  metZ [.ref (ad 0), .int v1, .int v2] sz (by decide) rfl (Nat.le_of_ble_eq_true rfl) (fun p e s m below meth c ls C hw hl => tX12_about_0 C v1 v2 sg lg _ _ _ hw hl h)
end ZM
