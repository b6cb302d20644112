section ZC
variable {p : Program} {l : Launch} {e : Env} {s : State} {m : MethodId} {args : Array Value} {below : List Frame} {meth : Method} {c : Code} {D : va_G} {T : Nat → ClassId} {A : Nat → Prop} {ad a : Nat → Nat} {lg : Lg}
-- PeckYard.take(II)J
def rmX11_take : Room := { frames := 3, cells := 0, slots := 0, locals := 104 }
theorem kX11_take_f10 : Cond.fieldLink RX11 10 "PeckYard" "flock" "LPeckYard$Flock;" ∈ wsX11_take := by decide +kernel
theorem kX11_take_iX11 : ∀ w ∈ u_ws RX11 TX11 9, w ∈ wsX11_take := by decide +kernel
theorem kX11_take_c88 : Cond.constantLong RX11 88 (-2000000001) ∈ wsX11_take := by decide +kernel
theorem kX11_take_f110 : Cond.fieldLink RX11 110 "PeckYard$Flock" "kind" "[I" ∈ wsX11_take := by decide +kernel
theorem kX11_take_iX2 : ∀ w ∈ u_ws RX2 TX2 7, w ∈ wsX11_take := by decide +kernel
theorem kX11_take_f19 : Cond.fieldLink RX11 19 "PeckYard" "changes" "LPeckYard$Changes;" ∈ wsX11_take := by decide +kernel
theorem kX11_take_f115 : Cond.fieldLink RX11 115 "PeckYard$Flock" "takenIn" "[I" ∈ wsX11_take := by decide +kernel
theorem kX11_take_c113 : Cond.constantLong RX11 113 (-2000000002) ∈ wsX11_take := by decide +kernel
def fX11_take  (v1 : Int32) (v2 : Int32) (sg : Sg) : Option (Int64 × Sg) :=
  bnd2 (fX2_has v1 sg) (fun y1 sg2 => (if y1 = 0 then some ((-2000000001 : Int64), sg2) else (if v2 < 0 then some ((-2000000001 : Int64), sg2) else (if v2 ≤ (1 : Int32) then gin v1 12 ((if (sg2 11 v1.toNatClampNeg) = (4 : Int32) then bnd1 (fX1_keepHen v1 sg2) (fun sg9 => gin v1 12 (lt ((sg9 13 v1.toNatClampNeg).toInt64) (fun x12 => gin v1 12 (lt (up2 sg9 13 v1.toNatClampNeg v2) (fun sg14 => some (x12, sg14)))))) else some ((-2000000002 : Int64), sg2))) else some ((-2000000001 : Int64), sg2)))))
set_option maxHeartbeats 4000000 in
set_option maxRecDepth 100000 in
theorem tX11_take_0 (C : Cx p s m args meth c cX11_take 5 RX11 wsX11_take (some .long) D vwCl (tysC T) A true nwL) {ro : Int64} {so : Sg}   : ∀ (v1 : Int32) (v2 : Int32) (sg : Sg), ∀ (H : Heap) (locs : List Loc) (ls : Array Slot), WS ZC D vwCl T ad sg lg A s.heap H locs → lv_has ls 5 [(0, .ref (ad 0)), (1, .int v1), (2, .int v2)] → fX11_take v1 v2 sg = some (ro, so) → W p l e rmX11_take s m args below meth c H locs 0 0 (MQ below (QL ZC D vwCl T (tysC T) A (fun z => ad = z) ro so lg) args s 0 0 A) (F0 m 0 ls []) := by
  obtain ⟨⟨hx, hb, hml, hown, hts⟩, hr, hlk, hK, hA, hsp⟩ := id C
  intro v1 v2 sg H locs ls hw hl h
  unfold fX11_take at h
  refine lv_aload_n hx hb dX11_take_0 rfl (lv_at hl 0 rfl) ?_
  refine r_getR (ci := 11) (C := RX11) (U := TX11) (N := 9) hx hb hts kX11_take_iX11 hown hK hw 0 (by decide) rfl rfl 0 (by decide) 1 rfl (hts _ kX11_take_f10) (fun _ h9 => h9) dX11_take_1 ?_
  refine lv_iload_n hx hb dX11_take_4 rfl (lv_at hl 1 rfl) ?_
  obtain ⟨y1, sg2, hq3, h2⟩ := bnd2_some h
  replace h := h2
  clear h2
  refine r_cVi (As := [.int v1]) (rest := []) C hw 1 (by decide) (ci := 2) rfl rfl (mX2_has l D T ad lg H.size v1 sg hq3) (cwV 1 hts gX11_take_X2_has rfl rfl rfl (by decide +kernel) ⟨Nat.le_of_ble_eq_true rfl, Nat.le_of_ble_eq_true rfl⟩) rfl hl.1 rfl (Nat.le_of_ble_eq_true rfl) dX11_take_5 ⟨Nat.le_of_ble_eq_true rfl, Nat.le_of_ble_eq_true rfl⟩ (fun ad' H locs hp hw => ?_)
  subst hp
  refine W.widen (k := 0) (n := 0) (by decide) (by decide) ?_
  refine lv_if_eq (tgt := 20) hx hb dX11_take_8 (by decide) (fun c4 => ?_) (fun c4 => ?_)
  · replace h := ite_t h c4
    refine lv_ldc2 hx hb hown (hts _ kX11_take_c88) dX11_take_20 ?_
    cases h
    exact r_lret C hw rfl (by decide) (by decide) dX11_take_23
  · replace h := ite_f h c4
    refine lv_iload_n hx hb dX11_take_11 rfl (lv_at hl 2 rfl) ?_
    refine lv_if_lt (tgt := 20) hx hb dX11_take_12 (by decide) (fun c5 => ?_) (fun c5 => ?_)
    · replace h := ite_t h c5
      refine lv_ldc2 hx hb hown (hts _ kX11_take_c88) dX11_take_20 ?_
      cases h
      exact r_lret C hw rfl (by decide) (by decide) dX11_take_23
    · replace h := ite_f h c5
      refine lv_iload_n hx hb dX11_take_15 rfl (lv_at hl 2 rfl) ?_
      refine lv_iconst (v := (1 : Int32)) hx hb dX11_take_16 (by decide) ?_
      refine lv_icmp_le (tgt := 24) hx hb dX11_take_17 (by decide) (fun c6 => ?_) (fun c6 => ?_)
      · replace h := ite_t h c6
        refine lv_aload_n hx hb dX11_take_24 rfl (lv_at hl 0 rfl) ?_
        refine r_getR (ci := 11) (C := RX11) (U := TX11) (N := 9) hx hb hts kX11_take_iX11 hown hK hw 0 (by decide) rfl rfl 0 (by decide) 1 rfl (hts _ kX11_take_f10) (fun _ h9 => h9) dX11_take_25 ?_
        refine r_getR (ci := 2) (C := RX2) (U := TX2) (N := 7) hx hb hts kX11_take_iX2 hown hK hw 1 (by decide) rfl rfl 2 (by decide) 11 rfl (hts _ kX11_take_f110) (fun _ h9 => h9) dX11_take_28 ?_
        refine lv_iload_n hx hb dX11_take_31 rfl (lv_at hl 1 rfl) ?_
        have hi7 := (gin_some h).1
        replace h := (gin_some h).2
        refine r_iald hx hb hK hw 11 0 12 (by decide) rfl rfl rfl hi7 dX11_take_32 ?_
        refine lv_iconst (v := (4 : Int32)) hx hb dX11_take_33 (by decide) ?_
        refine lv_icmp_eq (tgt := 41) hx hb dX11_take_34 (by decide) (fun c8 => ?_) (fun c8 => ?_)
        · replace h := ite_t h c8
          refine lv_aload_n hx hb dX11_take_41 rfl (lv_at hl 0 rfl) ?_
          refine r_getR (ci := 11) (C := RX11) (U := TX11) (N := 9) hx hb hts kX11_take_iX11 hown hK hw 0 (by decide) rfl rfl 1 (by decide) 2 rfl (hts _ kX11_take_f19) (fun _ h9 => h9) dX11_take_42 ?_
          refine lv_aload_n hx hb dX11_take_45 rfl (lv_at hl 0 rfl) ?_
          refine r_getR (ci := 11) (C := RX11) (U := TX11) (N := 9) hx hb hts kX11_take_iX11 hown hK hw 0 (by decide) rfl rfl 0 (by decide) 1 rfl (hts _ kX11_take_f10) (fun _ h9 => h9) dX11_take_46 ?_
          refine lv_iload_n hx hb dX11_take_49 rfl (lv_at hl 1 rfl) ?_
          obtain ⟨sg9, hq10, h2⟩ := bnd1_some h
          replace h := h2
          clear h2
          refine r_cVv (As := [.ref (ad 1), .int v1]) (rest := []) C hw 2 (by decide) (ci := 1) rfl rfl (mX1_keepHen l D T ad lg H.size v1 sg2 hq10) (cwV 2 hts gX11_take_X1_keepHen rfl rfl rfl (by decide +kernel) ⟨Nat.le_of_ble_eq_true rfl, Nat.le_of_ble_eq_true rfl⟩) rfl hl.1 rfl (Nat.le_of_ble_eq_true rfl) dX11_take_50 ⟨Nat.le_of_ble_eq_true rfl, Nat.le_of_ble_eq_true rfl⟩ (fun ad' H locs hp hw => ?_)
          subst hp
          refine W.widen (k := 0) (n := 0) (by decide) (by decide) ?_
          refine lv_aload_n hx hb dX11_take_53 rfl (lv_at hl 0 rfl) ?_
          refine r_getR (ci := 11) (C := RX11) (U := TX11) (N := 9) hx hb hts kX11_take_iX11 hown hK hw 0 (by decide) rfl rfl 0 (by decide) 1 rfl (hts _ kX11_take_f10) (fun _ h9 => h9) dX11_take_54 ?_
          refine r_getR (ci := 2) (C := RX2) (U := TX2) (N := 7) hx hb hts kX11_take_iX2 hown hK hw 1 (by decide) rfl rfl 4 (by decide) 13 rfl (hts _ kX11_take_f115) (fun _ h9 => h9) dX11_take_57 ?_
          refine lv_iload_n hx hb dX11_take_60 rfl (lv_at hl 1 rfl) ?_
          have hi11 := (gin_some h).1
          replace h := (gin_some h).2
          refine r_iald hx hb hK hw 13 0 12 (by decide) rfl rfl rfl hi11 dX11_take_61 ?_
          refine lv_i2l (v := (sg9 13 v1.toNatClampNeg).toInt64) hx hb dX11_take_62 rfl ?_
          refine lv_topl (fun x12 ex12 => ?_)
          replace h := lt_get h x12 ex12
          refine lv_lstore_n (lv' := [(3, .long x12), (0, .ref (ad 0)), (1, .int v1), (2, .int v2)]) hx hb dX11_take_63 rfl hl (by decide) rfl (fun ls hl => ?_)
          refine lv_aload_n hx hb dX11_take_64 rfl (lv_at hl 1 rfl) ?_
          refine r_getR (ci := 11) (C := RX11) (U := TX11) (N := 9) hx hb hts kX11_take_iX11 hown hK hw 0 (by decide) rfl rfl 0 (by decide) 1 rfl (hts _ kX11_take_f10) (fun _ h9 => h9) dX11_take_65 ?_
          refine r_getR (ci := 2) (C := RX2) (U := TX2) (N := 7) hx hb hts kX11_take_iX2 hown hK hw 1 (by decide) rfl rfl 4 (by decide) 13 rfl (hts _ kX11_take_f115) (fun _ h9 => h9) dX11_take_68 ?_
          refine lv_iload_n hx hb dX11_take_71 rfl (lv_at hl 2 rfl) ?_
          refine lv_iload_n hx hb dX11_take_72 rfl (lv_at hl 3 rfl) ?_
          have hi13 := (gin_some h).1
          replace h := (gin_some h).2
          refine r_iast ZC_ok hx hb hK hw 13 0 12 (by decide) rfl rfl rfl hi13 dX11_take_73 (fun H locs sg14 esg14 hw => ?_)
          replace h := lt_get h sg14 esg14
          refine lv_lload_n hx hb dX11_take_74 rfl (lv_at hl 0 rfl) ?_
          cases h
          exact r_lret C hw rfl (by decide) (by decide) dX11_take_75
        · replace h := ite_f h c8
          refine lv_ldc2 hx hb hown (hts _ kX11_take_c113) dX11_take_37 ?_
          cases h
          exact r_lret C hw rfl (by decide) (by decide) dX11_take_40
      · replace h := ite_f h c6
        refine lv_ldc2 hx hb hown (hts _ kX11_take_c88) dX11_take_20 ?_
        cases h
        exact r_lret C hw rfl (by decide) (by decide) dX11_take_23
theorem mX11_take (l : Launch) (D : va_G) (T : Nat → ClassId) (ad : Nat → Nat) (lg : Lg) (sz : Nat)   (v1 : Int32) (v2 : Int32) (sg : Sg) {ro : Int64} {so : Sg} (h : fX11_take v1 v2 sg = some (ro, so)) : Met l yX11_take wsX11_take rmX11_take (PreZ ZC D vwCl T (tysC T) ad sg lg true nwL [.ref (ad 0), .int v1, .int v2] sz) (QL ZC D vwCl T (tysC T) (va_A (zwd ZC T ad sg lg) sz) (fun z => ad = z) ro so lg) 0 0 (va_A (zwd ZC T ad sg lg) sz) :=
  metZ [.ref (ad 0), .int v1, .int v2] sz (by decide) rfl (Nat.le_of_ble_eq_true rfl) (fun p e s m below meth c ls C hw hl => tX11_take_0 C v1 v2 sg _ _ _ hw hl h)
-- PeckYard.pen(II)J
def rmX11_pen : Room := { frames := 3, cells := 0, slots := 0, locals := 104 }
theorem kX11_pen_f10 : Cond.fieldLink RX11 10 "PeckYard" "flock" "LPeckYard$Flock;" ∈ wsX11_pen := by decide +kernel
theorem kX11_pen_iX11 : ∀ w ∈ u_ws RX11 TX11 9, w ∈ wsX11_pen := by decide +kernel
theorem kX11_pen_c88 : Cond.constantLong RX11 88 (-2000000001) ∈ wsX11_pen := by decide +kernel
theorem kX11_pen_f118 : Cond.fieldLink RX11 118 "PeckYard" "MOST_OF_WIDTH" "[I" ∈ wsX11_pen := by decide +kernel
theorem kX11_pen_f19 : Cond.fieldLink RX11 19 "PeckYard" "changes" "LPeckYard$Changes;" ∈ wsX11_pen := by decide +kernel
def fX11_pen  (v1 : Int32) (v2 : Int32) (sg : Sg) : Option (Int64 × Sg) :=
  bnd2 (fX2_has v1 sg) (fun y1 sg2 => (if y1 = 0 then some ((-2000000001 : Int64), sg2) else (if v2 < 0 then some ((-2000000001 : Int64), sg2) else (if v2 < (4 : Int32) then bnd1 (fX1_keepHen v1 sg2) (fun sg8 => bnd1 (fX2_renewPen v1 v2 sg8) (fun sg10 => some ((0 : Int64), sg10))) else some ((-2000000001 : Int64), sg2)))))
set_option maxHeartbeats 4000000 in
set_option maxRecDepth 100000 in
theorem tX11_pen_0 (C : Cx p s m args meth c cX11_pen 3 RX11 wsX11_pen (some .long) D vwCl (tysC T) A true nwL) {ro : Int64} {so : Sg}   : ∀ (v1 : Int32) (v2 : Int32) (sg : Sg), ∀ (H : Heap) (locs : List Loc) (ls : Array Slot), WS ZC D vwCl T ad sg lg A s.heap H locs → lv_has ls 3 [(0, .ref (ad 0)), (1, .int v1), (2, .int v2)] → fX11_pen v1 v2 sg = some (ro, so) → W p l e rmX11_pen s m args below meth c H locs 0 0 (MQ below (QL ZC D vwCl T (tysC T) A (fun z => ad = z) ro so lg) args s 0 0 A) (F0 m 0 ls []) := by
  obtain ⟨⟨hx, hb, hml, hown, hts⟩, hr, hlk, hK, hA, hsp⟩ := id C
  intro v1 v2 sg H locs ls hw hl h
  unfold fX11_pen at h
  refine lv_aload_n hx hb dX11_pen_0 rfl (lv_at hl 0 rfl) ?_
  refine r_getR (ci := 11) (C := RX11) (U := TX11) (N := 9) hx hb hts kX11_pen_iX11 hown hK hw 0 (by decide) rfl rfl 0 (by decide) 1 rfl (hts _ kX11_pen_f10) (fun _ h9 => h9) dX11_pen_1 ?_
  refine lv_iload_n hx hb dX11_pen_4 rfl (lv_at hl 1 rfl) ?_
  obtain ⟨y1, sg2, hq3, h2⟩ := bnd2_some h
  replace h := h2
  clear h2
  refine r_cVi (As := [.int v1]) (rest := []) C hw 1 (by decide) (ci := 2) rfl rfl (mX2_has l D T ad lg H.size v1 sg hq3) (cwV 1 hts gX11_pen_X2_has rfl rfl rfl (by decide +kernel) ⟨Nat.le_of_ble_eq_true rfl, Nat.le_of_ble_eq_true rfl⟩) rfl hl.1 rfl (Nat.le_of_ble_eq_true rfl) dX11_pen_5 ⟨Nat.le_of_ble_eq_true rfl, Nat.le_of_ble_eq_true rfl⟩ (fun ad' H locs hp hw => ?_)
  subst hp
  refine W.widen (k := 0) (n := 0) (by decide) (by decide) ?_
  refine lv_if_eq (tgt := 23) hx hb dX11_pen_8 (by decide) (fun c4 => ?_) (fun c4 => ?_)
  · replace h := ite_t h c4
    refine lv_ldc2 hx hb hown (hts _ kX11_pen_c88) dX11_pen_23 ?_
    cases h
    exact r_lret C hw rfl (by decide) (by decide) dX11_pen_26
  · replace h := ite_f h c4
    refine lv_iload_n hx hb dX11_pen_11 rfl (lv_at hl 2 rfl) ?_
    refine lv_if_lt (tgt := 23) hx hb dX11_pen_12 (by decide) (fun c5 => ?_) (fun c5 => ?_)
    · replace h := ite_t h c5
      refine lv_ldc2 hx hb hown (hts _ kX11_pen_c88) dX11_pen_23 ?_
      cases h
      exact r_lret C hw rfl (by decide) (by decide) dX11_pen_26
    · replace h := ite_f h c5
      refine lv_iload_n hx hb dX11_pen_15 rfl (lv_at hl 2 rfl) ?_
      obtain ⟨⟨t6, hZt6, hTt6⟩, hnt6, hmt6⟩ := hsp rfl
      refine va_gets hx hb hZt6 hw.2.2 hown (hts _ kX11_pen_f118) (fun _ h9 => h9) dX11_pen_16 ?_
      refine va_tlen hx hb hTt6 hw.2.2 (v := (4 : Int32)) rfl dX11_pen_19 ?_
      refine lv_icmp_lt (tgt := 27) hx hb dX11_pen_20 (by decide) (fun c7 => ?_) (fun c7 => ?_)
      · replace h := ite_t h c7
        refine lv_aload_n hx hb dX11_pen_27 rfl (lv_at hl 0 rfl) ?_
        refine r_getR (ci := 11) (C := RX11) (U := TX11) (N := 9) hx hb hts kX11_pen_iX11 hown hK hw 0 (by decide) rfl rfl 1 (by decide) 2 rfl (hts _ kX11_pen_f19) (fun _ h9 => h9) dX11_pen_28 ?_
        refine lv_aload_n hx hb dX11_pen_31 rfl (lv_at hl 0 rfl) ?_
        refine r_getR (ci := 11) (C := RX11) (U := TX11) (N := 9) hx hb hts kX11_pen_iX11 hown hK hw 0 (by decide) rfl rfl 0 (by decide) 1 rfl (hts _ kX11_pen_f10) (fun _ h9 => h9) dX11_pen_32 ?_
        refine lv_iload_n hx hb dX11_pen_35 rfl (lv_at hl 1 rfl) ?_
        obtain ⟨sg8, hq9, h2⟩ := bnd1_some h
        replace h := h2
        clear h2
        refine r_cVv (As := [.ref (ad 1), .int v1]) (rest := []) C hw 2 (by decide) (ci := 1) rfl rfl (mX1_keepHen l D T ad lg H.size v1 sg2 hq9) (cwV 2 hts gX11_pen_X1_keepHen rfl rfl rfl (by decide +kernel) ⟨Nat.le_of_ble_eq_true rfl, Nat.le_of_ble_eq_true rfl⟩) rfl hl.1 rfl (Nat.le_of_ble_eq_true rfl) dX11_pen_36 ⟨Nat.le_of_ble_eq_true rfl, Nat.le_of_ble_eq_true rfl⟩ (fun ad' H locs hp hw => ?_)
        subst hp
        refine W.widen (k := 0) (n := 0) (by decide) (by decide) ?_
        refine lv_aload_n hx hb dX11_pen_39 rfl (lv_at hl 0 rfl) ?_
        refine r_getR (ci := 11) (C := RX11) (U := TX11) (N := 9) hx hb hts kX11_pen_iX11 hown hK hw 0 (by decide) rfl rfl 0 (by decide) 1 rfl (hts _ kX11_pen_f10) (fun _ h9 => h9) dX11_pen_40 ?_
        refine lv_iload_n hx hb dX11_pen_43 rfl (lv_at hl 1 rfl) ?_
        refine lv_iload_n hx hb dX11_pen_44 rfl (lv_at hl 2 rfl) ?_
        obtain ⟨sg10, hq11, h2⟩ := bnd1_some h
        replace h := h2
        clear h2
        refine r_cVv (As := [.int v1, .int v2]) (rest := []) C hw 1 (by decide) (ci := 2) rfl rfl (mX2_renewPen l D T ad lg H.size v1 v2 sg8 hq11) (cwV 2 hts gX11_pen_X2_renewPen rfl rfl rfl (by decide +kernel) ⟨Nat.le_of_ble_eq_true rfl, Nat.le_of_ble_eq_true rfl⟩) rfl hl.1 rfl (Nat.le_of_ble_eq_true rfl) dX11_pen_45 ⟨Nat.le_of_ble_eq_true rfl, Nat.le_of_ble_eq_true rfl⟩ (fun ad' H locs hp hw => ?_)
        subst hp
        refine W.widen (k := 0) (n := 0) (by decide) (by decide) ?_
        refine lv_lconst (v := (0 : Int64)) hx hb dX11_pen_48 (by decide) ?_
        cases h
        exact r_lret C hw rfl (by decide) (by decide) dX11_pen_49
      · replace h := ite_f h c7
        refine lv_ldc2 hx hb hown (hts _ kX11_pen_c88) dX11_pen_23 ?_
        cases h
        exact r_lret C hw rfl (by decide) (by decide) dX11_pen_26
theorem mX11_pen (l : Launch) (D : va_G) (T : Nat → ClassId) (ad : Nat → Nat) (lg : Lg) (sz : Nat)   (v1 : Int32) (v2 : Int32) (sg : Sg) {ro : Int64} {so : Sg} (h : fX11_pen v1 v2 sg = some (ro, so)) : Met l yX11_pen wsX11_pen rmX11_pen (PreZ ZC D vwCl T (tysC T) ad sg lg true nwL [.ref (ad 0), .int v1, .int v2] sz) (QL ZC D vwCl T (tysC T) (va_A (zwd ZC T ad sg lg) sz) (fun z => ad = z) ro so lg) 0 0 (va_A (zwd ZC T ad sg lg) sz) :=
  metZ [.ref (ad 0), .int v1, .int v2] sz (by decide) rfl (Nat.le_of_ble_eq_true rfl) (fun p e s m below meth c ls C hw hl => tX11_pen_0 C v1 v2 sg _ _ _ hw hl h)
-- PeckYard$Flock.mostWeight(I)I
def rmX2_mostWeight : Room := { frames := 0, cells := 0, slots := 0, locals := 0 }
theorem kX2_mostWeight_f21 : Cond.fieldLink RX2 21 "PeckYard$Flock" "width" "[I" ∈ wsX2_mostWeight := by decide +kernel
theorem kX2_mostWeight_iX2 : ∀ w ∈ u_ws RX2 TX2 7, w ∈ wsX2_mostWeight := by decide +kernel
theorem kX2_mostWeight_c39 : Cond.constant RX2 39 (1000000) ∈ wsX2_mostWeight := by decide +kernel
def fX2_mostWeight  (v1 : Int32) (sg : Sg) : Option (Int32 × Sg) :=
  gin v1 12 ((if (sg 14 v1.toNatClampNeg) = (-1 : Int32) then some ((1000000 : Int32), sg) else gin v1 12 (lt (sg 14 v1.toNatClampNeg) (fun x5 => gin x5 4 (some ((spV x5.toNatClampNeg), sg))))))
set_option maxHeartbeats 4000000 in
set_option maxRecDepth 100000 in
theorem tX2_mostWeight_0 (C : Cx p s m args meth c cX2_mostWeight 2 RX2 wsX2_mostWeight (some .int) D vwCl (tysC T) A true nwL) {ro : Int32} {so : Sg}   : ∀ (v1 : Int32) (sg : Sg), ∀ (H : Heap) (locs : List Loc) (ls : Array Slot), WS ZC D vwCl T ad sg lg A s.heap H locs → lv_has ls 2 [(0, .ref (ad 1)), (1, .int v1)] → fX2_mostWeight v1 sg = some (ro, so) → W p l e rmX2_mostWeight s m args below meth c H locs 0 0 (MQ below (QI ZC D vwCl T (tysC T) A (fun z => ad = z) ro so lg) args s 0 0 A) (F0 m 0 ls []) := by
  obtain ⟨⟨hx, hb, hml, hown, hts⟩, hr, hlk, hK, hA, hsp⟩ := id C
  intro v1 sg H locs ls hw hl h
  unfold fX2_mostWeight at h
  refine lv_aload_n hx hb dX2_mostWeight_0 rfl (lv_at hl 0 rfl) ?_
  refine r_getR (ci := 2) (C := RX2) (U := TX2) (N := 7) hx hb hts kX2_mostWeight_iX2 hown hK hw 1 (by decide) rfl rfl 5 (by decide) 14 rfl (hts _ kX2_mostWeight_f21) (fun _ h9 => h9) dX2_mostWeight_1 ?_
  refine lv_iload_n hx hb dX2_mostWeight_4 rfl (lv_at hl 1 rfl) ?_
  have hi1 := (gin_some h).1
  replace h := (gin_some h).2
  refine r_iald hx hb hK hw 14 0 12 (by decide) rfl rfl rfl hi1 dX2_mostWeight_5 ?_
  refine lv_iconst (v := (-1 : Int32)) hx hb dX2_mostWeight_6 (by decide) ?_
  refine lv_icmp_ne (tgt := 15) hx hb dX2_mostWeight_7 (by decide) (fun c2 => ?_) (fun c2 => ?_)
  · replace h := ite_f h c2
    obtain ⟨⟨t3, hZt3, hTt3⟩, hnt3, hmt3⟩ := hsp rfl
    refine va_getsN hx hb hZt3 hw.2.2 hown (va_Nw.use rfl (hmt3 _ nw_f)) (fun _ h9 => h9) dX2_mostWeight_15 ?_
    refine lv_aload_n hx hb dX2_mostWeight_18 rfl (lv_at hl 0 rfl) ?_
    refine r_getR (ci := 2) (C := RX2) (U := TX2) (N := 7) hx hb hts kX2_mostWeight_iX2 hown hK hw 1 (by decide) rfl rfl 5 (by decide) 14 rfl (hts _ kX2_mostWeight_f21) (fun _ h9 => h9) dX2_mostWeight_19 ?_
    refine lv_iload_n hx hb dX2_mostWeight_22 rfl (lv_at hl 1 rfl) ?_
    have hi4 := (gin_some h).1
    replace h := (gin_some h).2
    refine r_iald hx hb hK hw 14 0 12 (by decide) rfl rfl rfl hi4 dX2_mostWeight_23 ?_
    refine lv_topi (fun x5 ex5 => ?_)
    replace h := lt_get h x5 ex5
    have hi6 := (gin_some h).1
    replace h := (gin_some h).2
    refine va_ti hx hb hTt3 hw.2.2 hi6 (v := .int (spV x5.toNatClampNeg)) rfl dX2_mostWeight_24 ?_
    cases h
    exact r_iret C hw rfl (by decide) (by decide) dX2_mostWeight_25
  · replace h := ite_t h c2
    refine lv_ldc hx hb hown (hts _ kX2_mostWeight_c39) dX2_mostWeight_10 ?_
    refine lv_goto (tgt := 25) hx hb dX2_mostWeight_12 (by decide) ?_
    cases h
    exact r_iret C hw rfl (by decide) (by decide) dX2_mostWeight_25
theorem mX2_mostWeight (l : Launch) (D : va_G) (T : Nat → ClassId) (ad : Nat → Nat) (lg : Lg) (sz : Nat)   (v1 : Int32) (sg : Sg) {ro : Int32} {so : Sg} (h : fX2_mostWeight v1 sg = some (ro, so)) : Met l yX2_mostWeight wsX2_mostWeight rmX2_mostWeight (PreZ ZC D vwCl T (tysC T) ad sg lg true nwL [.ref (ad 1), .int v1] sz) (QI ZC D vwCl T (tysC T) (va_A (zwd ZC T ad sg lg) sz) (fun z => ad = z) ro so lg) 0 0 (va_A (zwd ZC T ad sg lg) sz) :=
  metZ [.ref (ad 1), .int v1] sz (by decide) rfl (Nat.le_of_ble_eq_true rfl) (fun p e s m below meth c ls C hw hl => tX2_mostWeight_0 C v1 sg _ _ _ hw hl h)
-- PeckYard.peck(IIJ)J
def rmX11_peck : Room := { frames := 3, cells := 0, slots := 0, locals := 104 }
theorem kX11_peck_f10 : Cond.fieldLink RX11 10 "PeckYard" "flock" "LPeckYard$Flock;" ∈ wsX11_peck := by decide +kernel
theorem kX11_peck_iX11 : ∀ w ∈ u_ws RX11 TX11 9, w ∈ wsX11_peck := by decide +kernel
theorem kX11_peck_c88 : Cond.constantLong RX11 88 (-2000000001) ∈ wsX11_peck := by decide +kernel
theorem kX11_peck_f131 : Cond.fieldLink RX11 131 "PeckYard$Flock" "width" "[I" ∈ wsX11_peck := by decide +kernel
theorem kX11_peck_iX2 : ∀ w ∈ u_ws RX2 TX2 7, w ∈ wsX11_peck := by decide +kernel
theorem kX11_peck_f19 : Cond.fieldLink RX11 19 "PeckYard" "changes" "LPeckYard$Changes;" ∈ wsX11_peck := by decide +kernel
theorem kX11_peck_f134 : Cond.fieldLink RX11 134 "PeckYard$Flock" "weights" "[I" ∈ wsX11_peck := by decide +kernel
theorem kX11_peck_c113 : Cond.constantLong RX11 113 (-2000000002) ∈ wsX11_peck := by decide +kernel
def fX11_peck  (v1 : Int32) (v2 : Int32) (v3 : Int64) (sg : Sg) : Option (Int64 × Sg) :=
  bnd2 (fX2_has v1 sg) (fun y1 sg2 => (if y1 = 0 then some ((-2000000001 : Int64), sg2) else bnd2 (fX11_isOther v1 v2 sg2) (fun y5 sg6 => (if y5 = 0 then some ((-2000000001 : Int64), sg6) else (if v3 < (0 : Int64) then some ((-2000000001 : Int64), sg6) else bnd2 (fX2_mostWeight v1 sg6) (fun y10 sg11 => (if v3 ≤ y10.toInt64 then gin v1 12 ((if (sg11 14 v1.toNatClampNeg) = (-1 : Int32) then some ((-2000000002 : Int64), sg11) else bnd1 (fX1_keepHen v1 sg11) (fun sg16 => lt ((v1 * (12 : Int32)) + v2) (fun x18 => gin x18 144 (lt ((sg16 15 x18.toNatClampNeg).toInt64) (fun x20 => gin ((v1 * (12 : Int32)) + v2) 144 (lt (up2 sg16 15 ((v1 * (12 : Int32)) + v2).toNatClampNeg v3.toInt32) (fun sg22 => some (x20, sg22))))))))) else some ((-2000000001 : Int64), sg11))))))))
set_option maxHeartbeats 4000000 in
set_option maxRecDepth 100000 in
theorem tX11_peck_0 (C : Cx p s m args meth c cX11_peck 7 RX11 wsX11_peck (some .long) D vwCl (tysC T) A true nwL) {ro : Int64} {so : Sg}   : ∀ (v1 : Int32) (v2 : Int32) (v3 : Int64) (sg : Sg), ∀ (H : Heap) (locs : List Loc) (ls : Array Slot), WS ZC D vwCl T ad sg lg A s.heap H locs → lv_has ls 7 [(0, .ref (ad 0)), (1, .int v1), (2, .int v2), (3, .long v3)] → fX11_peck v1 v2 v3 sg = some (ro, so) → W p l e rmX11_peck s m args below meth c H locs 0 0 (MQ below (QL ZC D vwCl T (tysC T) A (fun z => ad = z) ro so lg) args s 0 0 A) (F0 m 0 ls []) := by
  obtain ⟨⟨hx, hb, hml, hown, hts⟩, hr, hlk, hK, hA, hsp⟩ := id C
  intro v1 v2 v3 sg H locs ls hw hl h
  unfold fX11_peck at h
  refine lv_aload_n hx hb dX11_peck_0 rfl (lv_at hl 0 rfl) ?_
  refine r_getR (ci := 11) (C := RX11) (U := TX11) (N := 9) hx hb hts kX11_peck_iX11 hown hK hw 0 (by decide) rfl rfl 0 (by decide) 1 rfl (hts _ kX11_peck_f10) (fun _ h9 => h9) dX11_peck_1 ?_
  refine lv_iload_n hx hb dX11_peck_4 rfl (lv_at hl 1 rfl) ?_
  obtain ⟨y1, sg2, hq3, h2⟩ := bnd2_some h
  replace h := h2
  clear h2
  refine r_cVi (As := [.int v1]) (rest := []) C hw 1 (by decide) (ci := 2) rfl rfl (mX2_has l D T ad lg H.size v1 sg hq3) (cwV 1 hts gX11_peck_X2_has rfl rfl rfl (by decide +kernel) ⟨Nat.le_of_ble_eq_true rfl, Nat.le_of_ble_eq_true rfl⟩) rfl hl.1 rfl (Nat.le_of_ble_eq_true rfl) dX11_peck_5 ⟨Nat.le_of_ble_eq_true rfl, Nat.le_of_ble_eq_true rfl⟩ (fun ad' H locs hp hw => ?_)
  subst hp
  refine W.widen (k := 0) (n := 0) (by decide) (by decide) ?_
  refine lv_if_eq (tgt := 39) hx hb dX11_peck_8 (by decide) (fun c4 => ?_) (fun c4 => ?_)
  · replace h := ite_t h c4
    refine lv_ldc2 hx hb hown (hts _ kX11_peck_c88) dX11_peck_39 ?_
    cases h
    exact r_lret C hw rfl (by decide) (by decide) dX11_peck_42
  · replace h := ite_f h c4
    refine lv_iload_n hx hb dX11_peck_11 rfl (lv_at hl 1 rfl) ?_
    refine lv_iload_n hx hb dX11_peck_12 rfl (lv_at hl 2 rfl) ?_
    obtain ⟨y5, sg6, hq7, h2⟩ := bnd2_some h
    replace h := h2
    clear h2
    refine r_cSi (As := [.int v1, .int v2]) (rest := []) C hw (mX11_isOther l D T ad lg H.size v1 v2 sg2 hq7) (va_cwS 2 hts gX11_peck_X11_isOther rfl rfl rfl (by decide +kernel) ⟨Nat.le_of_ble_eq_true rfl, Nat.le_of_ble_eq_true rfl⟩) rfl hl.1 rfl (Nat.le_of_ble_eq_true rfl) dX11_peck_13 ⟨Nat.le_of_ble_eq_true rfl, Nat.le_of_ble_eq_true rfl⟩ (fun ad' H locs hp hw => ?_)
    subst hp
    refine W.widen (k := 0) (n := 0) (by decide) (by decide) ?_
    refine lv_if_eq (tgt := 39) hx hb dX11_peck_16 (by decide) (fun c8 => ?_) (fun c8 => ?_)
    · replace h := ite_t h c8
      refine lv_ldc2 hx hb hown (hts _ kX11_peck_c88) dX11_peck_39 ?_
      cases h
      exact r_lret C hw rfl (by decide) (by decide) dX11_peck_42
    · replace h := ite_f h c8
      refine lv_lload_n hx hb dX11_peck_19 rfl (lv_at hl 3 rfl) ?_
      refine lv_lconst (v := (0 : Int64)) hx hb dX11_peck_20 (by decide) ?_
      refine W.lcmp hx hb dX11_peck_21 ?_
      refine lv_if_lt (tgt := 39) hx hb dX11_peck_22 (by decide) (fun c9 => ?_) (fun c9 => ?_)
      · replace h := ite_t h ((lg_cmp_lt _ _).mp c9)
        refine lv_ldc2 hx hb hown (hts _ kX11_peck_c88) dX11_peck_39 ?_
        cases h
        exact r_lret C hw rfl (by decide) (by decide) dX11_peck_42
      · replace h := ite_f h (fun z => c9 ((lg_cmp_lt _ _).mpr z))
        refine lv_lload_n hx hb dX11_peck_25 rfl (lv_at hl 3 rfl) ?_
        refine lv_aload_n hx hb dX11_peck_26 rfl (lv_at hl 0 rfl) ?_
        refine r_getR (ci := 11) (C := RX11) (U := TX11) (N := 9) hx hb hts kX11_peck_iX11 hown hK hw 0 (by decide) rfl rfl 0 (by decide) 1 rfl (hts _ kX11_peck_f10) (fun _ h9 => h9) dX11_peck_27 ?_
        refine lv_iload_n hx hb dX11_peck_30 rfl (lv_at hl 1 rfl) ?_
        obtain ⟨y10, sg11, hq12, h2⟩ := bnd2_some h
        replace h := h2
        clear h2
        refine r_cVi (As := [.int v1]) (rest := [.long v3]) C hw 1 (by decide) (ci := 2) rfl rfl (mX2_mostWeight l D T ad lg H.size v1 sg6 hq12) (cwV 1 hts gX11_peck_X2_mostWeight rfl rfl rfl (by decide +kernel) ⟨Nat.le_of_ble_eq_true rfl, Nat.le_of_ble_eq_true rfl⟩) rfl hl.1 rfl (Nat.le_of_ble_eq_true rfl) dX11_peck_31 ⟨Nat.le_of_ble_eq_true rfl, Nat.le_of_ble_eq_true rfl⟩ (fun ad' H locs hp hw => ?_)
        subst hp
        refine W.widen (k := 0) (n := 0) (by decide) (by decide) ?_
        refine lv_i2l (v := y10.toInt64) hx hb dX11_peck_34 rfl ?_
        refine W.lcmp hx hb dX11_peck_35 ?_
        refine lv_if_le (tgt := 43) hx hb dX11_peck_36 (by decide) (fun c13 => ?_) (fun c13 => ?_)
        · replace h := ite_t h ((lg_cmp_le _ _).mp c13)
          refine lv_aload_n hx hb dX11_peck_43 rfl (lv_at hl 0 rfl) ?_
          refine r_getR (ci := 11) (C := RX11) (U := TX11) (N := 9) hx hb hts kX11_peck_iX11 hown hK hw 0 (by decide) rfl rfl 0 (by decide) 1 rfl (hts _ kX11_peck_f10) (fun _ h9 => h9) dX11_peck_44 ?_
          refine r_getR (ci := 2) (C := RX2) (U := TX2) (N := 7) hx hb hts kX11_peck_iX2 hown hK hw 1 (by decide) rfl rfl 5 (by decide) 14 rfl (hts _ kX11_peck_f131) (fun _ h9 => h9) dX11_peck_47 ?_
          refine lv_iload_n hx hb dX11_peck_50 rfl (lv_at hl 1 rfl) ?_
          have hi14 := (gin_some h).1
          replace h := (gin_some h).2
          refine r_iald hx hb hK hw 14 0 12 (by decide) rfl rfl rfl hi14 dX11_peck_51 ?_
          refine lv_iconst (v := (-1 : Int32)) hx hb dX11_peck_52 (by decide) ?_
          refine lv_icmp_ne (tgt := 60) hx hb dX11_peck_53 (by decide) (fun c15 => ?_) (fun c15 => ?_)
          · replace h := ite_f h c15
            refine lv_aload_n hx hb dX11_peck_60 rfl (lv_at hl 0 rfl) ?_
            refine r_getR (ci := 11) (C := RX11) (U := TX11) (N := 9) hx hb hts kX11_peck_iX11 hown hK hw 0 (by decide) rfl rfl 1 (by decide) 2 rfl (hts _ kX11_peck_f19) (fun _ h9 => h9) dX11_peck_61 ?_
            refine lv_aload_n hx hb dX11_peck_64 rfl (lv_at hl 0 rfl) ?_
            refine r_getR (ci := 11) (C := RX11) (U := TX11) (N := 9) hx hb hts kX11_peck_iX11 hown hK hw 0 (by decide) rfl rfl 0 (by decide) 1 rfl (hts _ kX11_peck_f10) (fun _ h9 => h9) dX11_peck_65 ?_
            refine lv_iload_n hx hb dX11_peck_68 rfl (lv_at hl 1 rfl) ?_
            obtain ⟨sg16, hq17, h2⟩ := bnd1_some h
            replace h := h2
            clear h2
            refine r_cVv (As := [.ref (ad 1), .int v1]) (rest := []) C hw 2 (by decide) (ci := 1) rfl rfl (mX1_keepHen l D T ad lg H.size v1 sg11 hq17) (cwV 2 hts gX11_peck_X1_keepHen rfl rfl rfl (by decide +kernel) ⟨Nat.le_of_ble_eq_true rfl, Nat.le_of_ble_eq_true rfl⟩) rfl hl.1 rfl (Nat.le_of_ble_eq_true rfl) dX11_peck_69 ⟨Nat.le_of_ble_eq_true rfl, Nat.le_of_ble_eq_true rfl⟩ (fun ad' H locs hp hw => ?_)
            subst hp
            refine W.widen (k := 0) (n := 0) (by decide) (by decide) ?_
            refine lv_aload_n hx hb dX11_peck_72 rfl (lv_at hl 0 rfl) ?_
            refine r_getR (ci := 11) (C := RX11) (U := TX11) (N := 9) hx hb hts kX11_peck_iX11 hown hK hw 0 (by decide) rfl rfl 0 (by decide) 1 rfl (hts _ kX11_peck_f10) (fun _ h9 => h9) dX11_peck_73 ?_
            refine r_getR (ci := 2) (C := RX2) (U := TX2) (N := 7) hx hb hts kX11_peck_iX2 hown hK hw 1 (by decide) rfl rfl 6 (by decide) 15 rfl (hts _ kX11_peck_f134) (fun _ h9 => h9) dX11_peck_76 ?_
            refine lv_iload_n hx hb dX11_peck_79 rfl (lv_at hl 1 rfl) ?_
            refine lv_bipush (v := (12 : Int32)) hx hb dX11_peck_80 (by decide) ?_
            refine lv_imul hx hb dX11_peck_82 ?_
            refine lv_iload_n hx hb dX11_peck_83 rfl (lv_at hl 2 rfl) ?_
            refine lv_iadd hx hb dX11_peck_84 ?_
            refine lv_topi (fun x18 ex18 => ?_)
            replace h := lt_get h x18 ex18
            have hi19 := (gin_some h).1
            replace h := (gin_some h).2
            refine r_iald hx hb hK hw 15 0 144 (by decide) rfl rfl rfl hi19 dX11_peck_85 ?_
            refine lv_i2l (v := (sg16 15 x18.toNatClampNeg).toInt64) hx hb dX11_peck_86 rfl ?_
            refine lv_topl (fun x20 ex20 => ?_)
            replace h := lt_get h x20 ex20
            refine lv_lstore (lv' := [(5, .long x20), (0, .ref (ad 0)), (1, .int v1), (2, .int v2), (3, .long v3)]) hx hb dX11_peck_87 hl (by decide) rfl (fun ls hl => ?_)
            refine lv_aload_n hx hb dX11_peck_89 rfl (lv_at hl 1 rfl) ?_
            refine r_getR (ci := 11) (C := RX11) (U := TX11) (N := 9) hx hb hts kX11_peck_iX11 hown hK hw 0 (by decide) rfl rfl 0 (by decide) 1 rfl (hts _ kX11_peck_f10) (fun _ h9 => h9) dX11_peck_90 ?_
            refine r_getR (ci := 2) (C := RX2) (U := TX2) (N := 7) hx hb hts kX11_peck_iX2 hown hK hw 1 (by decide) rfl rfl 6 (by decide) 15 rfl (hts _ kX11_peck_f134) (fun _ h9 => h9) dX11_peck_93 ?_
            refine lv_iload_n hx hb dX11_peck_96 rfl (lv_at hl 2 rfl) ?_
            refine lv_bipush (v := (12 : Int32)) hx hb dX11_peck_97 (by decide) ?_
            refine lv_imul hx hb dX11_peck_99 ?_
            refine lv_iload_n hx hb dX11_peck_100 rfl (lv_at hl 3 rfl) ?_
            refine lv_iadd hx hb dX11_peck_101 ?_
            refine lv_lload_n hx hb dX11_peck_102 rfl (lv_at hl 4 rfl) ?_
            refine lv_l2i (v := v3.toInt32) hx hb dX11_peck_103 rfl ?_
            have hi21 := (gin_some h).1
            replace h := (gin_some h).2
            refine r_iast ZC_ok hx hb hK hw 15 0 144 (by decide) rfl rfl rfl hi21 dX11_peck_104 (fun H locs sg22 esg22 hw => ?_)
            replace h := lt_get h sg22 esg22
            refine lv_lload hx hb dX11_peck_105 (lv_at hl 0 rfl) ?_
            cases h
            exact r_lret C hw rfl (by decide) (by decide) dX11_peck_107
          · replace h := ite_t h c15
            refine lv_ldc2 hx hb hown (hts _ kX11_peck_c113) dX11_peck_56 ?_
            cases h
            exact r_lret C hw rfl (by decide) (by decide) dX11_peck_59
        · replace h := ite_f h (fun z => c13 ((lg_cmp_le _ _).mpr z))
          refine lv_ldc2 hx hb hown (hts _ kX11_peck_c88) dX11_peck_39 ?_
          cases h
          exact r_lret C hw rfl (by decide) (by decide) dX11_peck_42
theorem mX11_peck (l : Launch) (D : va_G) (T : Nat → ClassId) (ad : Nat → Nat) (lg : Lg) (sz : Nat)   (v1 : Int32) (v2 : Int32) (v3 : Int64) (sg : Sg) {ro : Int64} {so : Sg} (h : fX11_peck v1 v2 v3 sg = some (ro, so)) : Met l yX11_peck wsX11_peck rmX11_peck (PreZ ZC D vwCl T (tysC T) ad sg lg true nwL [.ref (ad 0), .int v1, .int v2, .long v3] sz) (QL ZC D vwCl T (tysC T) (va_A (zwd ZC T ad sg lg) sz) (fun z => ad = z) ro so lg) 0 0 (va_A (zwd ZC T ad sg lg) sz) :=
  metZ [.ref (ad 0), .int v1, .int v2, .long v3] sz (by decide) rfl (Nat.le_of_ble_eq_true rfl) (fun p e s m below meth c ls C hw hl => tX11_peck_0 C v1 v2 v3 sg _ _ _ hw hl h)
-- PeckYard.leave(I)J
def rmX11_leave : Room := { frames := 3, cells := 0, slots := 0, locals := 104 }
theorem kX11_leave_f10 : Cond.fieldLink RX11 10 "PeckYard" "flock" "LPeckYard$Flock;" ∈ wsX11_leave := by decide +kernel
theorem kX11_leave_iX11 : ∀ w ∈ u_ws RX11 TX11 9, w ∈ wsX11_leave := by decide +kernel
theorem kX11_leave_f131 : Cond.fieldLink RX11 131 "PeckYard$Flock" "width" "[I" ∈ wsX11_leave := by decide +kernel
theorem kX11_leave_iX2 : ∀ w ∈ u_ws RX2 TX2 7, w ∈ wsX11_leave := by decide +kernel
theorem kX11_leave_f19 : Cond.fieldLink RX11 19 "PeckYard" "changes" "LPeckYard$Changes;" ∈ wsX11_leave := by decide +kernel
theorem kX11_leave_c113 : Cond.constantLong RX11 113 (-2000000002) ∈ wsX11_leave := by decide +kernel
theorem kX11_leave_c88 : Cond.constantLong RX11 88 (-2000000001) ∈ wsX11_leave := by decide +kernel
def fX11_leave  (v1 : Int32) (sg : Sg) : Option (Int64 × Sg) :=
  bnd2 (fX2_has v1 sg) (fun y1 sg2 => (if y1 = 0 then some ((-2000000001 : Int64), sg2) else gin v1 12 ((if (sg2 14 v1.toNatClampNeg) = (-1 : Int32) then some ((-2000000002 : Int64), sg2) else bnd1 (fX1_keepHen v1 sg2) (fun sg7 => bnd1 (fX2_renewPen v1 (-1 : Int32) sg7) (fun sg9 => some ((0 : Int64), sg9)))))))
set_option maxHeartbeats 4000000 in
set_option maxRecDepth 100000 in
theorem tX11_leave_0 (C : Cx p s m args meth c cX11_leave 2 RX11 wsX11_leave (some .long) D vwCl (tysC T) A true nwL) {ro : Int64} {so : Sg}   : ∀ (v1 : Int32) (sg : Sg), ∀ (H : Heap) (locs : List Loc) (ls : Array Slot), WS ZC D vwCl T ad sg lg A s.heap H locs → lv_has ls 2 [(0, .ref (ad 0)), (1, .int v1)] → fX11_leave v1 sg = some (ro, so) → W p l e rmX11_leave s m args below meth c H locs 0 0 (MQ below (QL ZC D vwCl T (tysC T) A (fun z => ad = z) ro so lg) args s 0 0 A) (F0 m 0 ls []) := by
  obtain ⟨⟨hx, hb, hml, hown, hts⟩, hr, hlk, hK, hA, hsp⟩ := id C
  intro v1 sg H locs ls hw hl h
  unfold fX11_leave at h
  refine lv_aload_n hx hb dX11_leave_0 rfl (lv_at hl 0 rfl) ?_
  refine r_getR (ci := 11) (C := RX11) (U := TX11) (N := 9) hx hb hts kX11_leave_iX11 hown hK hw 0 (by decide) rfl rfl 0 (by decide) 1 rfl (hts _ kX11_leave_f10) (fun _ h9 => h9) dX11_leave_1 ?_
  refine lv_iload_n hx hb dX11_leave_4 rfl (lv_at hl 1 rfl) ?_
  obtain ⟨y1, sg2, hq3, h2⟩ := bnd2_some h
  replace h := h2
  clear h2
  refine r_cVi (As := [.int v1]) (rest := []) C hw 1 (by decide) (ci := 2) rfl rfl (mX2_has l D T ad lg H.size v1 sg hq3) (cwV 1 hts gX11_leave_X2_has rfl rfl rfl (by decide +kernel) ⟨Nat.le_of_ble_eq_true rfl, Nat.le_of_ble_eq_true rfl⟩) rfl hl.1 rfl (Nat.le_of_ble_eq_true rfl) dX11_leave_5 ⟨Nat.le_of_ble_eq_true rfl, Nat.le_of_ble_eq_true rfl⟩ (fun ad' H locs hp hw => ?_)
  subst hp
  refine W.widen (k := 0) (n := 0) (by decide) (by decide) ?_
  refine lv_if_ne (tgt := 15) hx hb dX11_leave_8 (by decide) (fun c4 => ?_) (fun c4 => ?_)
  · replace h := ite_f h c4
    refine lv_aload_n hx hb dX11_leave_15 rfl (lv_at hl 0 rfl) ?_
    refine r_getR (ci := 11) (C := RX11) (U := TX11) (N := 9) hx hb hts kX11_leave_iX11 hown hK hw 0 (by decide) rfl rfl 0 (by decide) 1 rfl (hts _ kX11_leave_f10) (fun _ h9 => h9) dX11_leave_16 ?_
    refine r_getR (ci := 2) (C := RX2) (U := TX2) (N := 7) hx hb hts kX11_leave_iX2 hown hK hw 1 (by decide) rfl rfl 5 (by decide) 14 rfl (hts _ kX11_leave_f131) (fun _ h9 => h9) dX11_leave_19 ?_
    refine lv_iload_n hx hb dX11_leave_22 rfl (lv_at hl 1 rfl) ?_
    have hi5 := (gin_some h).1
    replace h := (gin_some h).2
    refine r_iald hx hb hK hw 14 0 12 (by decide) rfl rfl rfl hi5 dX11_leave_23 ?_
    refine lv_iconst (v := (-1 : Int32)) hx hb dX11_leave_24 (by decide) ?_
    refine lv_icmp_ne (tgt := 32) hx hb dX11_leave_25 (by decide) (fun c6 => ?_) (fun c6 => ?_)
    · replace h := ite_f h c6
      refine lv_aload_n hx hb dX11_leave_32 rfl (lv_at hl 0 rfl) ?_
      refine r_getR (ci := 11) (C := RX11) (U := TX11) (N := 9) hx hb hts kX11_leave_iX11 hown hK hw 0 (by decide) rfl rfl 1 (by decide) 2 rfl (hts _ kX11_leave_f19) (fun _ h9 => h9) dX11_leave_33 ?_
      refine lv_aload_n hx hb dX11_leave_36 rfl (lv_at hl 0 rfl) ?_
      refine r_getR (ci := 11) (C := RX11) (U := TX11) (N := 9) hx hb hts kX11_leave_iX11 hown hK hw 0 (by decide) rfl rfl 0 (by decide) 1 rfl (hts _ kX11_leave_f10) (fun _ h9 => h9) dX11_leave_37 ?_
      refine lv_iload_n hx hb dX11_leave_40 rfl (lv_at hl 1 rfl) ?_
      obtain ⟨sg7, hq8, h2⟩ := bnd1_some h
      replace h := h2
      clear h2
      refine r_cVv (As := [.ref (ad 1), .int v1]) (rest := []) C hw 2 (by decide) (ci := 1) rfl rfl (mX1_keepHen l D T ad lg H.size v1 sg2 hq8) (cwV 2 hts gX11_leave_X1_keepHen rfl rfl rfl (by decide +kernel) ⟨Nat.le_of_ble_eq_true rfl, Nat.le_of_ble_eq_true rfl⟩) rfl hl.1 rfl (Nat.le_of_ble_eq_true rfl) dX11_leave_41 ⟨Nat.le_of_ble_eq_true rfl, Nat.le_of_ble_eq_true rfl⟩ (fun ad' H locs hp hw => ?_)
      subst hp
      refine W.widen (k := 0) (n := 0) (by decide) (by decide) ?_
      refine lv_aload_n hx hb dX11_leave_44 rfl (lv_at hl 0 rfl) ?_
      refine r_getR (ci := 11) (C := RX11) (U := TX11) (N := 9) hx hb hts kX11_leave_iX11 hown hK hw 0 (by decide) rfl rfl 0 (by decide) 1 rfl (hts _ kX11_leave_f10) (fun _ h9 => h9) dX11_leave_45 ?_
      refine lv_iload_n hx hb dX11_leave_48 rfl (lv_at hl 1 rfl) ?_
      refine lv_iconst (v := (-1 : Int32)) hx hb dX11_leave_49 (by decide) ?_
      obtain ⟨sg9, hq10, h2⟩ := bnd1_some h
      replace h := h2
      clear h2
      refine r_cVv (As := [.int v1, .int (-1 : Int32)]) (rest := []) C hw 1 (by decide) (ci := 2) rfl rfl (mX2_renewPen l D T ad lg H.size v1 (-1 : Int32) sg7 hq10) (cwV 2 hts gX11_leave_X2_renewPen rfl rfl rfl (by decide +kernel) ⟨Nat.le_of_ble_eq_true rfl, Nat.le_of_ble_eq_true rfl⟩) rfl hl.1 rfl (Nat.le_of_ble_eq_true rfl) dX11_leave_50 ⟨Nat.le_of_ble_eq_true rfl, Nat.le_of_ble_eq_true rfl⟩ (fun ad' H locs hp hw => ?_)
      subst hp
      refine W.widen (k := 0) (n := 0) (by decide) (by decide) ?_
      refine lv_lconst (v := (0 : Int64)) hx hb dX11_leave_53 (by decide) ?_
      cases h
      exact r_lret C hw rfl (by decide) (by decide) dX11_leave_54
    · replace h := ite_t h c6
      refine lv_ldc2 hx hb hown (hts _ kX11_leave_c113) dX11_leave_28 ?_
      cases h
      exact r_lret C hw rfl (by decide) (by decide) dX11_leave_31
  · replace h := ite_t h c4
    refine lv_ldc2 hx hb hown (hts _ kX11_leave_c88) dX11_leave_11 ?_
    cases h
    exact r_lret C hw rfl (by decide) (by decide) dX11_leave_14
theorem mX11_leave (l : Launch) (D : va_G) (T : Nat → ClassId) (ad : Nat → Nat) (lg : Lg) (sz : Nat)   (v1 : Int32) (sg : Sg) {ro : Int64} {so : Sg} (h : fX11_leave v1 sg = some (ro, so)) : Met l yX11_leave wsX11_leave rmX11_leave (PreZ ZC D vwCl T (tysC T) ad sg lg true nwL [.ref (ad 0), .int v1] sz) (QL ZC D vwCl T (tysC T) (va_A (zwd ZC T ad sg lg) sz) (fun z => ad = z) ro so lg) 0 0 (va_A (zwd ZC T ad sg lg) sz) :=
  metZ [.ref (ad 0), .int v1] sz (by decide) rfl (Nat.le_of_ble_eq_true rfl) (fun p e s m below meth c ls C hw hl => tX11_leave_0 C v1 sg _ _ _ hw hl h)
-- PeckYard$Flock.isCounted(I)Z
def rmX2_isCounted : Room := { frames := 1, cells := 0, slots := 0, locals := 21 }
theorem kX2_isCounted_f9 : Cond.fieldLink RX2 9 "PeckYard$Flock" "kind" "[I" ∈ wsX2_isCounted := by decide +kernel
theorem kX2_isCounted_iX2 : ∀ w ∈ u_ws RX2 TX2 7, w ∈ wsX2_isCounted := by decide +kernel
theorem kX2_isCounted_f18 : Cond.fieldLink RX2 18 "PeckYard$Flock" "takenIn" "[I" ∈ wsX2_isCounted := by decide +kernel
def fX2_isCounted  (v1 : Int32) (sg : Sg) : Option (Int32 × Sg) :=
  bnd2 (fX2_has v1 sg) (fun y1 sg2 => (if y1 = 0 then some ((0 : Int32), sg2) else gin v1 12 ((if (sg2 11 v1.toNatClampNeg) = (4 : Int32) then gin v1 12 ((if (sg2 13 v1.toNatClampNeg) = (1 : Int32) then some ((1 : Int32), sg2) else some ((0 : Int32), sg2))) else some ((1 : Int32), sg2)))))
set_option maxHeartbeats 4000000 in
set_option maxRecDepth 100000 in
theorem tX2_isCounted_0 (C : Cx p s m args meth c cX2_isCounted 2 RX2 wsX2_isCounted (some .boolean) D vwCl (tysC T) A true nwL) {ro : Int32} {so : Sg}   : ∀ (v1 : Int32) (sg : Sg), ∀ (H : Heap) (locs : List Loc) (ls : Array Slot), WS ZC D vwCl T ad sg lg A s.heap H locs → lv_has ls 2 [(0, .ref (ad 1)), (1, .int v1)] → fX2_isCounted v1 sg = some (ro, so) → W p l e rmX2_isCounted s m args below meth c H locs 0 0 (MQ below (QI ZC D vwCl T (tysC T) A (fun z => ad = z) ro so lg) args s 0 0 A) (F0 m 0 ls []) := by
  obtain ⟨⟨hx, hb, hml, hown, hts⟩, hr, hlk, hK, hA, hsp⟩ := id C
  intro v1 sg H locs ls hw hl h
  unfold fX2_isCounted at h
  refine lv_aload_n hx hb dX2_isCounted_0 rfl (lv_at hl 0 rfl) ?_
  refine lv_iload_n hx hb dX2_isCounted_1 rfl (lv_at hl 1 rfl) ?_
  obtain ⟨y1, sg2, hq3, h2⟩ := bnd2_some h
  replace h := h2
  clear h2
  refine r_cVi (As := [.int v1]) (rest := []) C hw 1 (by decide) (ci := 2) rfl rfl (mX2_has l D T ad lg H.size v1 sg hq3) (cwV 1 hts gX2_isCounted_X2_has rfl rfl rfl (by decide +kernel) ⟨Nat.le_of_ble_eq_true rfl, Nat.le_of_ble_eq_true rfl⟩) rfl hl.1 rfl (Nat.le_of_ble_eq_true rfl) dX2_isCounted_2 ⟨Nat.le_of_ble_eq_true rfl, Nat.le_of_ble_eq_true rfl⟩ (fun ad' H locs hp hw => ?_)
  subst hp
  refine W.widen (k := 0) (n := 0) (by decide) (by decide) ?_
  refine lv_if_eq (tgt := 32) hx hb dX2_isCounted_5 (by decide) (fun c4 => ?_) (fun c4 => ?_)
  · replace h := ite_t h c4
    refine lv_iconst (v := (0 : Int32)) hx hb dX2_isCounted_32 (by decide) ?_
    cases h
    exact r_zret C hw rfl (by decide) (by decide) (by decide) dX2_isCounted_33
  · replace h := ite_f h c4
    refine lv_aload_n hx hb dX2_isCounted_8 rfl (lv_at hl 0 rfl) ?_
    refine r_getR (ci := 2) (C := RX2) (U := TX2) (N := 7) hx hb hts kX2_isCounted_iX2 hown hK hw 1 (by decide) rfl rfl 2 (by decide) 11 rfl (hts _ kX2_isCounted_f9) (fun _ h9 => h9) dX2_isCounted_9 ?_
    refine lv_iload_n hx hb dX2_isCounted_12 rfl (lv_at hl 1 rfl) ?_
    have hi5 := (gin_some h).1
    replace h := (gin_some h).2
    refine r_iald hx hb hK hw 11 0 12 (by decide) rfl rfl rfl hi5 dX2_isCounted_13 ?_
    refine lv_iconst (v := (4 : Int32)) hx hb dX2_isCounted_14 (by decide) ?_
    refine lv_icmp_ne (tgt := 28) hx hb dX2_isCounted_15 (by decide) (fun c6 => ?_) (fun c6 => ?_)
    · replace h := ite_f h c6
      refine lv_iconst (v := (1 : Int32)) hx hb dX2_isCounted_28 (by decide) ?_
      refine lv_goto (tgt := 33) hx hb dX2_isCounted_29 (by decide) ?_
      cases h
      exact r_zret C hw rfl (by decide) (by decide) (by decide) dX2_isCounted_33
    · replace h := ite_t h c6
      refine lv_aload_n hx hb dX2_isCounted_18 rfl (lv_at hl 0 rfl) ?_
      refine r_getR (ci := 2) (C := RX2) (U := TX2) (N := 7) hx hb hts kX2_isCounted_iX2 hown hK hw 1 (by decide) rfl rfl 4 (by decide) 13 rfl (hts _ kX2_isCounted_f18) (fun _ h9 => h9) dX2_isCounted_19 ?_
      refine lv_iload_n hx hb dX2_isCounted_22 rfl (lv_at hl 1 rfl) ?_
      have hi7 := (gin_some h).1
      replace h := (gin_some h).2
      refine r_iald hx hb hK hw 13 0 12 (by decide) rfl rfl rfl hi7 dX2_isCounted_23 ?_
      refine lv_iconst (v := (1 : Int32)) hx hb dX2_isCounted_24 (by decide) ?_
      refine lv_icmp_ne (tgt := 32) hx hb dX2_isCounted_25 (by decide) (fun c8 => ?_) (fun c8 => ?_)
      · replace h := ite_f h c8
        refine lv_iconst (v := (0 : Int32)) hx hb dX2_isCounted_32 (by decide) ?_
        cases h
        exact r_zret C hw rfl (by decide) (by decide) (by decide) dX2_isCounted_33
      · replace h := ite_t h c8
        refine lv_iconst (v := (1 : Int32)) hx hb dX2_isCounted_28 (by decide) ?_
        refine lv_goto (tgt := 33) hx hb dX2_isCounted_29 (by decide) ?_
        cases h
        exact r_zret C hw rfl (by decide) (by decide) (by decide) dX2_isCounted_33
theorem mX2_isCounted (l : Launch) (D : va_G) (T : Nat → ClassId) (ad : Nat → Nat) (lg : Lg) (sz : Nat)   (v1 : Int32) (sg : Sg) {ro : Int32} {so : Sg} (h : fX2_isCounted v1 sg = some (ro, so)) : Met l yX2_isCounted wsX2_isCounted rmX2_isCounted (PreZ ZC D vwCl T (tysC T) ad sg lg true nwL [.ref (ad 1), .int v1] sz) (QI ZC D vwCl T (tysC T) (va_A (zwd ZC T ad sg lg) sz) (fun z => ad = z) ro so lg) 0 0 (va_A (zwd ZC T ad sg lg) sz) :=
  metZ [.ref (ad 1), .int v1] sz (by decide) rfl (Nat.le_of_ble_eq_true rfl) (fun p e s m below meth c ls C hw hl => tX2_isCounted_0 C v1 sg _ _ _ hw hl h)
-- PeckYard.about(II)J
def rmX11_about : Room := { frames := 2, cells := 0, slots := 0, locals := 42 }
theorem kX11_about_f10 : Cond.fieldLink RX11 10 "PeckYard" "flock" "LPeckYard$Flock;" ∈ wsX11_about := by decide +kernel
theorem kX11_about_iX11 : ∀ w ∈ u_ws RX11 TX11 9, w ∈ wsX11_about := by decide +kernel
theorem kX11_about_f110 : Cond.fieldLink RX11 110 "PeckYard$Flock" "kind" "[I" ∈ wsX11_about := by decide +kernel
theorem kX11_about_iX2 : ∀ w ∈ u_ws RX2 TX2 7, w ∈ wsX11_about := by decide +kernel
theorem kX11_about_f106 : Cond.fieldLink RX11 106 "PeckYard$Flock" "asks" "[I" ∈ wsX11_about := by decide +kernel
theorem kX11_about_f131 : Cond.fieldLink RX11 131 "PeckYard$Flock" "width" "[I" ∈ wsX11_about := by decide +kernel
theorem kX11_about_c140 : Cond.constantLong RX11 140 (-2000000005) ∈ wsX11_about := by decide +kernel
theorem kX11_about_c88 : Cond.constantLong RX11 88 (-2000000001) ∈ wsX11_about := by decide +kernel
def fX11_about  (v1 : Int32) (v2 : Int32) (sg : Sg) : Option (Int64 × Sg) :=
  bnd2 (fX2_has v1 sg) (fun y1 sg2 => (if y1 = 0 then some ((-2000000001 : Int64), sg2) else (if v2 = (0 : Int32) then gin v1 12 (some ((sg2 11 v1.toNatClampNeg).toInt64, sg2)) else (if v2 = (1 : Int32) then gin v1 12 (some ((sg2 12 v1.toNatClampNeg).toInt64, sg2)) else (if v2 = (2 : Int32) then bnd2 (fX2_isCounted v1 sg2) (fun y10 sg11 => (if y10 = 0 then some ((0 : Int64), sg11) else some ((1 : Int64), sg11))) else (if v2 = (3 : Int32) then gin v1 12 ((if (sg2 14 v1.toNatClampNeg) = (-1 : Int32) then some ((-2000000005 : Int64), sg2) else gin v1 12 (some ((sg2 14 v1.toNatClampNeg).toInt64, sg2)))) else some ((-2000000001 : Int64), sg2)))))))
set_option maxHeartbeats 4000000 in
set_option maxRecDepth 100000 in
theorem tX11_about_0 (C : Cx p s m args meth c cX11_about 3 RX11 wsX11_about (some .long) D vwCl (tysC T) A true nwL) {ro : Int64} {so : Sg}   : ∀ (v1 : Int32) (v2 : Int32) (sg : Sg), ∀ (H : Heap) (locs : List Loc) (ls : Array Slot), WS ZC D vwCl T ad sg lg A s.heap H locs → lv_has ls 3 [(0, .ref (ad 0)), (1, .int v1), (2, .int v2)] → fX11_about v1 v2 sg = some (ro, so) → W p l e rmX11_about s m args below meth c H locs 0 0 (MQ below (QL ZC D vwCl T (tysC T) A (fun z => ad = z) ro so lg) args s 0 0 A) (F0 m 0 ls []) := by
  obtain ⟨⟨hx, hb, hml, hown, hts⟩, hr, hlk, hK, hA, hsp⟩ := id C
  intro v1 v2 sg H locs ls hw hl h
  unfold fX11_about at h
  refine lv_aload_n hx hb dX11_about_0 rfl (lv_at hl 0 rfl) ?_
  refine r_getR (ci := 11) (C := RX11) (U := TX11) (N := 9) hx hb hts kX11_about_iX11 hown hK hw 0 (by decide) rfl rfl 0 (by decide) 1 rfl (hts _ kX11_about_f10) (fun _ h9 => h9) dX11_about_1 ?_
  refine lv_iload_n hx hb dX11_about_4 rfl (lv_at hl 1 rfl) ?_
  obtain ⟨y1, sg2, hq3, h2⟩ := bnd2_some h
  replace h := h2
  clear h2
  refine r_cVi (As := [.int v1]) (rest := []) C hw 1 (by decide) (ci := 2) rfl rfl (mX2_has l D T ad lg H.size v1 sg hq3) (cwV 1 hts gX11_about_X2_has rfl rfl rfl (by decide +kernel) ⟨Nat.le_of_ble_eq_true rfl, Nat.le_of_ble_eq_true rfl⟩) rfl hl.1 rfl (Nat.le_of_ble_eq_true rfl) dX11_about_5 ⟨Nat.le_of_ble_eq_true rfl, Nat.le_of_ble_eq_true rfl⟩ (fun ad' H locs hp hw => ?_)
  subst hp
  refine W.widen (k := 0) (n := 0) (by decide) (by decide) ?_
  refine lv_if_ne (tgt := 15) hx hb dX11_about_8 (by decide) (fun c4 => ?_) (fun c4 => ?_)
  · replace h := ite_f h c4
    refine lv_iload_n hx hb dX11_about_15 rfl (lv_at hl 2 rfl) ?_
    by_cases c5 : v2 = (0 : Int32)
    · replace h := ite_t h c5
      refine lv_tableIn (tgt := 48) (off := 32) hx hb dX11_about_16 (by rw [c5]; decide) (by rw [c5]; decide) (by rw [c5]; rfl) (by decide) ?_
      refine lv_aload_n hx hb dX11_about_48 rfl (lv_at hl 0 rfl) ?_
      refine r_getR (ci := 11) (C := RX11) (U := TX11) (N := 9) hx hb hts kX11_about_iX11 hown hK hw 0 (by decide) rfl rfl 0 (by decide) 1 rfl (hts _ kX11_about_f10) (fun _ h9 => h9) dX11_about_49 ?_
      refine r_getR (ci := 2) (C := RX2) (U := TX2) (N := 7) hx hb hts kX11_about_iX2 hown hK hw 1 (by decide) rfl rfl 2 (by decide) 11 rfl (hts _ kX11_about_f110) (fun _ h9 => h9) dX11_about_52 ?_
      refine lv_iload_n hx hb dX11_about_55 rfl (lv_at hl 1 rfl) ?_
      have hi6 := (gin_some h).1
      replace h := (gin_some h).2
      refine r_iald hx hb hK hw 11 0 12 (by decide) rfl rfl rfl hi6 dX11_about_56 ?_
      refine lv_i2l (v := (sg2 11 v1.toNatClampNeg).toInt64) hx hb dX11_about_57 rfl ?_
      cases h
      exact r_lret C hw rfl (by decide) (by decide) dX11_about_58
    replace h := ite_f h c5
    by_cases c7 : v2 = (1 : Int32)
    · replace h := ite_t h c7
      refine lv_tableIn (tgt := 59) (off := 43) hx hb dX11_about_16 (by rw [c7]; decide) (by rw [c7]; decide) (by rw [c7]; rfl) (by decide) ?_
      refine lv_aload_n hx hb dX11_about_59 rfl (lv_at hl 0 rfl) ?_
      refine r_getR (ci := 11) (C := RX11) (U := TX11) (N := 9) hx hb hts kX11_about_iX11 hown hK hw 0 (by decide) rfl rfl 0 (by decide) 1 rfl (hts _ kX11_about_f10) (fun _ h9 => h9) dX11_about_60 ?_
      refine r_getR (ci := 2) (C := RX2) (U := TX2) (N := 7) hx hb hts kX11_about_iX2 hown hK hw 1 (by decide) rfl rfl 3 (by decide) 12 rfl (hts _ kX11_about_f106) (fun _ h9 => h9) dX11_about_63 ?_
      refine lv_iload_n hx hb dX11_about_66 rfl (lv_at hl 1 rfl) ?_
      have hi8 := (gin_some h).1
      replace h := (gin_some h).2
      refine r_iald hx hb hK hw 12 0 12 (by decide) rfl rfl rfl hi8 dX11_about_67 ?_
      refine lv_i2l (v := (sg2 12 v1.toNatClampNeg).toInt64) hx hb dX11_about_68 rfl ?_
      cases h
      exact r_lret C hw rfl (by decide) (by decide) dX11_about_69
    replace h := ite_f h c7
    by_cases c9 : v2 = (2 : Int32)
    · replace h := ite_t h c9
      refine lv_tableIn (tgt := 70) (off := 54) hx hb dX11_about_16 (by rw [c9]; decide) (by rw [c9]; decide) (by rw [c9]; rfl) (by decide) ?_
      refine lv_aload_n hx hb dX11_about_70 rfl (lv_at hl 0 rfl) ?_
      refine r_getR (ci := 11) (C := RX11) (U := TX11) (N := 9) hx hb hts kX11_about_iX11 hown hK hw 0 (by decide) rfl rfl 0 (by decide) 1 rfl (hts _ kX11_about_f10) (fun _ h9 => h9) dX11_about_71 ?_
      refine lv_iload_n hx hb dX11_about_74 rfl (lv_at hl 1 rfl) ?_
      obtain ⟨y10, sg11, hq12, h2⟩ := bnd2_some h
      replace h := h2
      clear h2
      refine r_cVi (As := [.int v1]) (rest := []) C hw 1 (by decide) (ci := 2) rfl rfl (mX2_isCounted l D T ad lg H.size v1 sg2 hq12) (cwV 1 hts gX11_about_X2_isCounted rfl rfl rfl (by decide +kernel) ⟨Nat.le_of_ble_eq_true rfl, Nat.le_of_ble_eq_true rfl⟩) rfl hl.1 rfl (Nat.le_of_ble_eq_true rfl) dX11_about_75 ⟨Nat.le_of_ble_eq_true rfl, Nat.le_of_ble_eq_true rfl⟩ (fun ad' H locs hp hw => ?_)
      subst hp
      refine W.widen (k := 0) (n := 0) (by decide) (by decide) ?_
      refine lv_if_eq (tgt := 85) hx hb dX11_about_78 (by decide) (fun c13 => ?_) (fun c13 => ?_)
      · replace h := ite_t h c13
        refine lv_lconst (v := (0 : Int64)) hx hb dX11_about_85 (by decide) ?_
        cases h
        exact r_lret C hw rfl (by decide) (by decide) dX11_about_86
      · replace h := ite_f h c13
        refine lv_lconst (v := (1 : Int64)) hx hb dX11_about_81 (by decide) ?_
        refine lv_goto (tgt := 86) hx hb dX11_about_82 (by decide) ?_
        cases h
        exact r_lret C hw rfl (by decide) (by decide) dX11_about_86
    replace h := ite_f h c9
    by_cases c14 : v2 = (3 : Int32)
    · replace h := ite_t h c14
      refine lv_tableIn (tgt := 87) (off := 71) hx hb dX11_about_16 (by rw [c14]; decide) (by rw [c14]; decide) (by rw [c14]; rfl) (by decide) ?_
      refine lv_aload_n hx hb dX11_about_87 rfl (lv_at hl 0 rfl) ?_
      refine r_getR (ci := 11) (C := RX11) (U := TX11) (N := 9) hx hb hts kX11_about_iX11 hown hK hw 0 (by decide) rfl rfl 0 (by decide) 1 rfl (hts _ kX11_about_f10) (fun _ h9 => h9) dX11_about_88 ?_
      refine r_getR (ci := 2) (C := RX2) (U := TX2) (N := 7) hx hb hts kX11_about_iX2 hown hK hw 1 (by decide) rfl rfl 5 (by decide) 14 rfl (hts _ kX11_about_f131) (fun _ h9 => h9) dX11_about_91 ?_
      refine lv_iload_n hx hb dX11_about_94 rfl (lv_at hl 1 rfl) ?_
      have hi15 := (gin_some h).1
      replace h := (gin_some h).2
      refine r_iald hx hb hK hw 14 0 12 (by decide) rfl rfl rfl hi15 dX11_about_95 ?_
      refine lv_iconst (v := (-1 : Int32)) hx hb dX11_about_96 (by decide) ?_
      refine lv_icmp_ne (tgt := 106) hx hb dX11_about_97 (by decide) (fun c16 => ?_) (fun c16 => ?_)
      · replace h := ite_f h c16
        refine lv_aload_n hx hb dX11_about_106 rfl (lv_at hl 0 rfl) ?_
        refine r_getR (ci := 11) (C := RX11) (U := TX11) (N := 9) hx hb hts kX11_about_iX11 hown hK hw 0 (by decide) rfl rfl 0 (by decide) 1 rfl (hts _ kX11_about_f10) (fun _ h9 => h9) dX11_about_107 ?_
        refine r_getR (ci := 2) (C := RX2) (U := TX2) (N := 7) hx hb hts kX11_about_iX2 hown hK hw 1 (by decide) rfl rfl 5 (by decide) 14 rfl (hts _ kX11_about_f131) (fun _ h9 => h9) dX11_about_110 ?_
        refine lv_iload_n hx hb dX11_about_113 rfl (lv_at hl 1 rfl) ?_
        have hi17 := (gin_some h).1
        replace h := (gin_some h).2
        refine r_iald hx hb hK hw 14 0 12 (by decide) rfl rfl rfl hi17 dX11_about_114 ?_
        refine lv_i2l (v := (sg2 14 v1.toNatClampNeg).toInt64) hx hb dX11_about_115 rfl ?_
        cases h
        exact r_lret C hw rfl (by decide) (by decide) dX11_about_116
      · replace h := ite_t h c16
        refine lv_ldc2 hx hb hown (hts _ kX11_about_c140) dX11_about_100 ?_
        refine lv_goto (tgt := 116) hx hb dX11_about_103 (by decide) ?_
        cases h
        exact r_lret C hw rfl (by decide) (by decide) dX11_about_116
    replace h := ite_f h c14
    refine lv_tableOut (tgt := 117) hx hb dX11_about_16 (by have q0 := lv_neT c5 (a := 0) (by decide); have q1 := lv_neT c7 (a := 1) (by decide); have q2 := lv_neT c9 (a := 2) (by decide); have q3 := lv_neT c14 (a := 3) (by decide); omega) (by decide) ?_
    refine lv_ldc2 hx hb hown (hts _ kX11_about_c88) dX11_about_117 ?_
    cases h
    exact r_lret C hw rfl (by decide) (by decide) dX11_about_120
  · replace h := ite_t h c4
    refine lv_ldc2 hx hb hown (hts _ kX11_about_c88) dX11_about_11 ?_
    cases h
    exact r_lret C hw rfl (by decide) (by decide) dX11_about_14
theorem mX11_about (l : Launch) (D : va_G) (T : Nat → ClassId) (ad : Nat → Nat) (lg : Lg) (sz : Nat)   (v1 : Int32) (v2 : Int32) (sg : Sg) {ro : Int64} {so : Sg} (h : fX11_about v1 v2 sg = some (ro, so)) : Met l yX11_about wsX11_about rmX11_about (PreZ ZC D vwCl T (tysC T) ad sg lg true nwL [.ref (ad 0), .int v1, .int v2] sz) (QL ZC D vwCl T (tysC T) (va_A (zwd ZC T ad sg lg) sz) (fun z => ad = z) ro so lg) 0 0 (va_A (zwd ZC T ad sg lg) sz) :=
  metZ [.ref (ad 0), .int v1, .int v2] sz (by decide) rfl (Nat.le_of_ble_eq_true rfl) (fun p e s m below meth c ls C hw hl => tX11_about_0 C v1 v2 sg _ _ _ hw hl h)
-- PeckYard.isOf(II)J
def rmX11_isOf : Room := { frames := 1, cells := 0, slots := 0, locals := 21 }
theorem kX11_isOf_f10 : Cond.fieldLink RX11 10 "PeckYard" "flock" "LPeckYard$Flock;" ∈ wsX11_isOf := by decide +kernel
theorem kX11_isOf_iX11 : ∀ w ∈ u_ws RX11 TX11 9, w ∈ wsX11_isOf := by decide +kernel
theorem kX11_isOf_c88 : Cond.constantLong RX11 88 (-2000000001) ∈ wsX11_isOf := by decide +kernel
theorem kX11_isOf_f110 : Cond.fieldLink RX11 110 "PeckYard$Flock" "kind" "[I" ∈ wsX11_isOf := by decide +kernel
theorem kX11_isOf_iX2 : ∀ w ∈ u_ws RX2 TX2 7, w ∈ wsX11_isOf := by decide +kernel
def fX11_isOf  (v1 : Int32) (v2 : Int32) (sg : Sg) : Option (Int64 × Sg) :=
  bnd2 (fX2_has v1 sg) (fun y1 sg2 => (if y1 = 0 then some ((-2000000001 : Int64), sg2) else bnd2 (fX11_isKind v2 sg2) (fun y5 sg6 => (if y5 = 0 then some ((-2000000001 : Int64), sg6) else gin v1 12 (lt (sg6 11 v1.toNatClampNeg) (fun x10 => (if v2 = 0 then some ((1 : Int64), sg6) else (if v2 = x10 then some ((1 : Int64), sg6) else (if v2 = (1 : Int32) then (if x10 = (3 : Int32) then some ((1 : Int64), sg6) else some ((0 : Int64), sg6)) else some ((0 : Int64), sg6))))))))))
set_option maxHeartbeats 4000000 in
set_option maxRecDepth 100000 in
theorem tX11_isOf_0 (C : Cx p s m args meth c cX11_isOf 4 RX11 wsX11_isOf (some .long) D vwCl (tysC T) A true nwL) {ro : Int64} {so : Sg}   : ∀ (v1 : Int32) (v2 : Int32) (sg : Sg), ∀ (H : Heap) (locs : List Loc) (ls : Array Slot), WS ZC D vwCl T ad sg lg A s.heap H locs → lv_has ls 4 [(0, .ref (ad 0)), (1, .int v1), (2, .int v2)] → fX11_isOf v1 v2 sg = some (ro, so) → W p l e rmX11_isOf s m args below meth c H locs 0 0 (MQ below (QL ZC D vwCl T (tysC T) A (fun z => ad = z) ro so lg) args s 0 0 A) (F0 m 0 ls []) := by
  obtain ⟨⟨hx, hb, hml, hown, hts⟩, hr, hlk, hK, hA, hsp⟩ := id C
  intro v1 v2 sg H locs ls hw hl h
  unfold fX11_isOf at h
  refine lv_aload_n hx hb dX11_isOf_0 rfl (lv_at hl 0 rfl) ?_
  refine r_getR (ci := 11) (C := RX11) (U := TX11) (N := 9) hx hb hts kX11_isOf_iX11 hown hK hw 0 (by decide) rfl rfl 0 (by decide) 1 rfl (hts _ kX11_isOf_f10) (fun _ h9 => h9) dX11_isOf_1 ?_
  refine lv_iload_n hx hb dX11_isOf_4 rfl (lv_at hl 1 rfl) ?_
  obtain ⟨y1, sg2, hq3, h2⟩ := bnd2_some h
  replace h := h2
  clear h2
  refine r_cVi (As := [.int v1]) (rest := []) C hw 1 (by decide) (ci := 2) rfl rfl (mX2_has l D T ad lg H.size v1 sg hq3) (cwV 1 hts gX11_isOf_X2_has rfl rfl rfl (by decide +kernel) ⟨Nat.le_of_ble_eq_true rfl, Nat.le_of_ble_eq_true rfl⟩) rfl hl.1 rfl (Nat.le_of_ble_eq_true rfl) dX11_isOf_5 ⟨Nat.le_of_ble_eq_true rfl, Nat.le_of_ble_eq_true rfl⟩ (fun ad' H locs hp hw => ?_)
  subst hp
  refine W.widen (k := 0) (n := 0) (by decide) (by decide) ?_
  refine lv_if_eq (tgt := 18) hx hb dX11_isOf_8 (by decide) (fun c4 => ?_) (fun c4 => ?_)
  · replace h := ite_t h c4
    refine lv_ldc2 hx hb hown (hts _ kX11_isOf_c88) dX11_isOf_18 ?_
    cases h
    exact r_lret C hw rfl (by decide) (by decide) dX11_isOf_21
  · replace h := ite_f h c4
    refine lv_iload_n hx hb dX11_isOf_11 rfl (lv_at hl 2 rfl) ?_
    obtain ⟨y5, sg6, hq7, h2⟩ := bnd2_some h
    replace h := h2
    clear h2
    refine r_cSi (As := [.int v2]) (rest := []) C hw (mX11_isKind l D T ad lg H.size v2 sg2 hq7) (va_cwS 1 hts gX11_isOf_X11_isKind rfl rfl rfl (by decide +kernel) ⟨Nat.le_of_ble_eq_true rfl, Nat.le_of_ble_eq_true rfl⟩) rfl hl.1 rfl (Nat.le_of_ble_eq_true rfl) dX11_isOf_12 ⟨Nat.le_of_ble_eq_true rfl, Nat.le_of_ble_eq_true rfl⟩ (fun ad' H locs hp hw => ?_)
    subst hp
    refine W.widen (k := 0) (n := 0) (by decide) (by decide) ?_
    refine lv_if_ne (tgt := 22) hx hb dX11_isOf_15 (by decide) (fun c8 => ?_) (fun c8 => ?_)
    · replace h := ite_f h c8
      refine lv_aload_n hx hb dX11_isOf_22 rfl (lv_at hl 0 rfl) ?_
      refine r_getR (ci := 11) (C := RX11) (U := TX11) (N := 9) hx hb hts kX11_isOf_iX11 hown hK hw 0 (by decide) rfl rfl 0 (by decide) 1 rfl (hts _ kX11_isOf_f10) (fun _ h9 => h9) dX11_isOf_23 ?_
      refine r_getR (ci := 2) (C := RX2) (U := TX2) (N := 7) hx hb hts kX11_isOf_iX2 hown hK hw 1 (by decide) rfl rfl 2 (by decide) 11 rfl (hts _ kX11_isOf_f110) (fun _ h9 => h9) dX11_isOf_26 ?_
      refine lv_iload_n hx hb dX11_isOf_29 rfl (lv_at hl 1 rfl) ?_
      have hi9 := (gin_some h).1
      replace h := (gin_some h).2
      refine r_iald hx hb hK hw 11 0 12 (by decide) rfl rfl rfl hi9 dX11_isOf_30 ?_
      refine lv_topi (fun x10 ex10 => ?_)
      replace h := lt_get h x10 ex10
      refine lv_istore_n (lv' := [(3, .int x10), (0, .ref (ad 0)), (1, .int v1), (2, .int v2)]) hx hb dX11_isOf_31 rfl hl (by decide) rfl (fun ls hl => ?_)
      refine lv_iload_n hx hb dX11_isOf_32 rfl (lv_at hl 3 rfl) ?_
      refine lv_if_eq (tgt := 51) hx hb dX11_isOf_33 (by decide) (fun c11 => ?_) (fun c11 => ?_)
      · replace h := ite_t h c11
        refine lv_lconst (v := (1 : Int64)) hx hb dX11_isOf_51 (by decide) ?_
        refine lv_goto (tgt := 56) hx hb dX11_isOf_52 (by decide) ?_
        cases h
        exact r_lret C hw rfl (by decide) (by decide) dX11_isOf_56
      · replace h := ite_f h c11
        refine lv_iload_n hx hb dX11_isOf_36 rfl (lv_at hl 3 rfl) ?_
        refine lv_iload_n hx hb dX11_isOf_37 rfl (lv_at hl 0 rfl) ?_
        refine lv_icmp_eq (tgt := 51) hx hb dX11_isOf_38 (by decide) (fun c12 => ?_) (fun c12 => ?_)
        · replace h := ite_t h c12
          refine lv_lconst (v := (1 : Int64)) hx hb dX11_isOf_51 (by decide) ?_
          refine lv_goto (tgt := 56) hx hb dX11_isOf_52 (by decide) ?_
          cases h
          exact r_lret C hw rfl (by decide) (by decide) dX11_isOf_56
        · replace h := ite_f h c12
          refine lv_iload_n hx hb dX11_isOf_41 rfl (lv_at hl 3 rfl) ?_
          refine lv_iconst (v := (1 : Int32)) hx hb dX11_isOf_42 (by decide) ?_
          refine lv_icmp_ne (tgt := 55) hx hb dX11_isOf_43 (by decide) (fun c13 => ?_) (fun c13 => ?_)
          · replace h := ite_f h c13
            refine lv_lconst (v := (0 : Int64)) hx hb dX11_isOf_55 (by decide) ?_
            cases h
            exact r_lret C hw rfl (by decide) (by decide) dX11_isOf_56
          · replace h := ite_t h c13
            refine lv_iload_n hx hb dX11_isOf_46 rfl (lv_at hl 0 rfl) ?_
            refine lv_iconst (v := (3 : Int32)) hx hb dX11_isOf_47 (by decide) ?_
            refine lv_icmp_ne (tgt := 55) hx hb dX11_isOf_48 (by decide) (fun c14 => ?_) (fun c14 => ?_)
            · replace h := ite_f h c14
              refine lv_lconst (v := (0 : Int64)) hx hb dX11_isOf_55 (by decide) ?_
              cases h
              exact r_lret C hw rfl (by decide) (by decide) dX11_isOf_56
            · replace h := ite_t h c14
              refine lv_lconst (v := (1 : Int64)) hx hb dX11_isOf_51 (by decide) ?_
              refine lv_goto (tgt := 56) hx hb dX11_isOf_52 (by decide) ?_
              cases h
              exact r_lret C hw rfl (by decide) (by decide) dX11_isOf_56
    · replace h := ite_t h c8
      refine lv_ldc2 hx hb hown (hts _ kX11_isOf_c88) dX11_isOf_18 ?_
      cases h
      exact r_lret C hw rfl (by decide) (by decide) dX11_isOf_21
theorem mX11_isOf (l : Launch) (D : va_G) (T : Nat → ClassId) (ad : Nat → Nat) (lg : Lg) (sz : Nat)   (v1 : Int32) (v2 : Int32) (sg : Sg) {ro : Int64} {so : Sg} (h : fX11_isOf v1 v2 sg = some (ro, so)) : Met l yX11_isOf wsX11_isOf rmX11_isOf (PreZ ZC D vwCl T (tysC T) ad sg lg true nwL [.ref (ad 0), .int v1, .int v2] sz) (QL ZC D vwCl T (tysC T) (va_A (zwd ZC T ad sg lg) sz) (fun z => ad = z) ro so lg) 0 0 (va_A (zwd ZC T ad sg lg) sz) :=
  metZ [.ref (ad 0), .int v1, .int v2] sz (by decide) rfl (Nat.le_of_ble_eq_true rfl) (fun p e s m below meth c ls C hw hl => tX11_isOf_0 C v1 v2 sg _ _ _ hw hl h)
end ZC
