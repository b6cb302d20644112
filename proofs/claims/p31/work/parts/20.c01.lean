section ZC
variable {p : Program} {l : Launch} {e : Env} {s : State} {m : MethodId} {args : Array Value} {below : List Frame} {meth : Method} {c : Code} {D : va_G} {T : Nat → ClassId} {A : Nat → Prop} {ad a : Nat → Nat} {lg : Lg}
-- PeckYard.isKind(I)Z
def rmX11_isKind : Room := { frames := 0, cells := 0, slots := 0, locals := 0 }
def fX11_isKind  (v0 : Int32) (sg : Sg) : Option (Int32 × Sg) :=
  (if v0 < 0 then some ((0 : Int32), sg) else (if (4 : Int32) < v0 then some ((0 : Int32), sg) else some ((1 : Int32), sg)))
set_option maxHeartbeats 4000000 in
set_option maxRecDepth 100000 in
theorem tX11_isKind_0 (C : Cx p s m args meth c cX11_isKind 1 RX11 wsX11_isKind (some .boolean) D vwCl (tysC T) A true nwL) {ro : Int32} {so : Sg}   : ∀ (v0 : Int32) (sg : Sg), ∀ (H : Heap) (locs : List Loc) (ls : Array Slot), WS ZC D vwCl T ad sg lg A s.heap H locs → lv_has ls 1 [(0, .int v0)] → fX11_isKind v0 sg = some (ro, so) → W p l e rmX11_isKind s m args below meth c H locs 0 0 (MQ below (QI ZC D vwCl T (tysC T) A (fun z => ad = z) ro so lg) args s 0 0 A) (F0 m 0 ls []) := by
  obtain ⟨⟨hx, hb, hml, hown, hts⟩, hr, hlk, hK, hA, hsp⟩ := id C
  intro v0 sg H locs ls hw hl h
  unfold fX11_isKind at h
  refine lv_iload_n hx hb dX11_isKind_0 rfl (lv_at hl 0 rfl) ?_
  refine lv_if_lt (tgt := 13) hx hb dX11_isKind_1 (by decide) (fun c1 => ?_) (fun c1 => ?_)
  · replace h := ite_t h c1
    refine lv_iconst (v := (0 : Int32)) hx hb dX11_isKind_13 (by decide) ?_
    cases h
    exact r_zret C hw rfl (by decide) (by decide) (by decide) dX11_isKind_14
  · replace h := ite_f h c1
    refine lv_iload_n hx hb dX11_isKind_4 rfl (lv_at hl 0 rfl) ?_
    refine lv_iconst (v := (4 : Int32)) hx hb dX11_isKind_5 (by decide) ?_
    refine lv_icmp_gt (tgt := 13) hx hb dX11_isKind_6 (by decide) (fun c2 => ?_) (fun c2 => ?_)
    · replace h := ite_t h c2
      refine lv_iconst (v := (0 : Int32)) hx hb dX11_isKind_13 (by decide) ?_
      cases h
      exact r_zret C hw rfl (by decide) (by decide) (by decide) dX11_isKind_14
    · replace h := ite_f h c2
      refine lv_iconst (v := (1 : Int32)) hx hb dX11_isKind_9 (by decide) ?_
      refine lv_goto (tgt := 14) hx hb dX11_isKind_10 (by decide) ?_
      cases h
      exact r_zret C hw rfl (by decide) (by decide) (by decide) dX11_isKind_14
theorem mX11_isKind (l : Launch) (D : va_G) (T : Nat → ClassId) (ad : Nat → Nat) (lg : Lg) (sz : Nat)   (v0 : Int32) (sg : Sg) {ro : Int32} {so : Sg} (h : fX11_isKind v0 sg = some (ro, so)) : Met l yX11_isKind wsX11_isKind rmX11_isKind (PreZ ZC D vwCl T (tysC T) ad sg lg true nwL [.int v0] sz) (QI ZC D vwCl T (tysC T) (va_A (zwd ZC T ad sg lg) sz) (fun z => ad = z) ro so lg) 0 0 (va_A (zwd ZC T ad sg lg) sz) :=
  metZ [.int v0] sz (by decide) rfl (Nat.le_of_ble_eq_true rfl) (fun p e s m below meth c ls C hw hl => tX11_isKind_0 C v0 sg _ _ _ hw hl h)
-- PeckYard.isOther(II)Z
def rmX11_isOther : Room := { frames := 0, cells := 0, slots := 0, locals := 0 }
def fX11_isOther  (v0 : Int32) (v1 : Int32) (sg : Sg) : Option (Int32 × Sg) :=
  (if v1 < 0 then some ((0 : Int32), sg) else (if (12 : Int32) ≤ v1 then some ((0 : Int32), sg) else (if v1 = v0 then some ((0 : Int32), sg) else some ((1 : Int32), sg))))
set_option maxHeartbeats 4000000 in
set_option maxRecDepth 100000 in
theorem tX11_isOther_0 (C : Cx p s m args meth c cX11_isOther 2 RX11 wsX11_isOther (some .boolean) D vwCl (tysC T) A true nwL) {ro : Int32} {so : Sg}   : ∀ (v0 : Int32) (v1 : Int32) (sg : Sg), ∀ (H : Heap) (locs : List Loc) (ls : Array Slot), WS ZC D vwCl T ad sg lg A s.heap H locs → lv_has ls 2 [(0, .int v0), (1, .int v1)] → fX11_isOther v0 v1 sg = some (ro, so) → W p l e rmX11_isOther s m args below meth c H locs 0 0 (MQ below (QI ZC D vwCl T (tysC T) A (fun z => ad = z) ro so lg) args s 0 0 A) (F0 m 0 ls []) := by
  obtain ⟨⟨hx, hb, hml, hown, hts⟩, hr, hlk, hK, hA, hsp⟩ := id C
  intro v0 v1 sg H locs ls hw hl h
  unfold fX11_isOther at h
  refine lv_iload_n hx hb dX11_isOther_0 rfl (lv_at hl 1 rfl) ?_
  refine lv_if_lt (tgt := 19) hx hb dX11_isOther_1 (by decide) (fun c1 => ?_) (fun c1 => ?_)
  · replace h := ite_t h c1
    refine lv_iconst (v := (0 : Int32)) hx hb dX11_isOther_19 (by decide) ?_
    cases h
    exact r_zret C hw rfl (by decide) (by decide) (by decide) dX11_isOther_20
  · replace h := ite_f h c1
    refine lv_iload_n hx hb dX11_isOther_4 rfl (lv_at hl 1 rfl) ?_
    refine lv_bipush (v := (12 : Int32)) hx hb dX11_isOther_5 (by decide) ?_
    refine lv_icmp_ge (tgt := 19) hx hb dX11_isOther_7 (by decide) (fun c2 => ?_) (fun c2 => ?_)
    · replace h := ite_t h c2
      refine lv_iconst (v := (0 : Int32)) hx hb dX11_isOther_19 (by decide) ?_
      cases h
      exact r_zret C hw rfl (by decide) (by decide) (by decide) dX11_isOther_20
    · replace h := ite_f h c2
      refine lv_iload_n hx hb dX11_isOther_10 rfl (lv_at hl 1 rfl) ?_
      refine lv_iload_n hx hb dX11_isOther_11 rfl (lv_at hl 0 rfl) ?_
      refine lv_icmp_eq (tgt := 19) hx hb dX11_isOther_12 (by decide) (fun c3 => ?_) (fun c3 => ?_)
      · replace h := ite_t h c3
        refine lv_iconst (v := (0 : Int32)) hx hb dX11_isOther_19 (by decide) ?_
        cases h
        exact r_zret C hw rfl (by decide) (by decide) (by decide) dX11_isOther_20
      · replace h := ite_f h c3
        refine lv_iconst (v := (1 : Int32)) hx hb dX11_isOther_15 (by decide) ?_
        refine lv_goto (tgt := 20) hx hb dX11_isOther_16 (by decide) ?_
        cases h
        exact r_zret C hw rfl (by decide) (by decide) (by decide) dX11_isOther_20
theorem mX11_isOther (l : Launch) (D : va_G) (T : Nat → ClassId) (ad : Nat → Nat) (lg : Lg) (sz : Nat)   (v0 : Int32) (v1 : Int32) (sg : Sg) {ro : Int32} {so : Sg} (h : fX11_isOther v0 v1 sg = some (ro, so)) : Met l yX11_isOther wsX11_isOther rmX11_isOther (PreZ ZC D vwCl T (tysC T) ad sg lg true nwL [.int v0, .int v1] sz) (QI ZC D vwCl T (tysC T) (va_A (zwd ZC T ad sg lg) sz) (fun z => ad = z) ro so lg) 0 0 (va_A (zwd ZC T ad sg lg) sz) :=
  metZ [.int v0, .int v1] sz (by decide) rfl (Nat.le_of_ble_eq_true rfl) (fun p e s m below meth c ls C hw hl => tX11_isOther_0 C v0 v1 sg _ _ _ hw hl h)
-- PeckYard.mayAskFor(II)Z
def rmX11_mayAskFor : Room := { frames := 1, cells := 0, slots := 0, locals := 21 }
theorem kX11_mayAskFor_c254 : Cond.constant RX11 254 (-2000000005) ∈ wsX11_mayAskFor := by decide +kernel
def fX11_mayAskFor  (v0 : Int32) (v1 : Int32) (sg : Sg) : Option (Int32 × Sg) :=
  (if v1 = (-2000000005 : Int32) then some ((1 : Int32), sg) else bnd2 (fX11_isOther v0 v1 sg) (fun y2 sg3 => (if y2 = 0 then some ((0 : Int32), sg3) else some ((1 : Int32), sg3))))
set_option maxHeartbeats 4000000 in
set_option maxRecDepth 100000 in
theorem tX11_mayAskFor_0 (C : Cx p s m args meth c cX11_mayAskFor 2 RX11 wsX11_mayAskFor (some .boolean) D vwCl (tysC T) A true nwL) {ro : Int32} {so : Sg}   : ∀ (v0 : Int32) (v1 : Int32) (sg : Sg), ∀ (H : Heap) (locs : List Loc) (ls : Array Slot), WS ZC D vwCl T ad sg lg A s.heap H locs → lv_has ls 2 [(0, .int v0), (1, .int v1)] → fX11_mayAskFor v0 v1 sg = some (ro, so) → W p l e rmX11_mayAskFor s m args below meth c H locs 0 0 (MQ below (QI ZC D vwCl T (tysC T) A (fun z => ad = z) ro so lg) args s 0 0 A) (F0 m 0 ls []) := by
  obtain ⟨⟨hx, hb, hml, hown, hts⟩, hr, hlk, hK, hA, hsp⟩ := id C
  intro v0 v1 sg H locs ls hw hl h
  unfold fX11_mayAskFor at h
  refine lv_iload_n hx hb dX11_mayAskFor_0 rfl (lv_at hl 1 rfl) ?_
  refine lv_ldc hx hb hown (hts _ kX11_mayAskFor_c254) dX11_mayAskFor_1 ?_
  refine lv_icmp_eq (tgt := 14) hx hb dX11_mayAskFor_3 (by decide) (fun c1 => ?_) (fun c1 => ?_)
  · replace h := ite_t h c1
    refine lv_iconst (v := (1 : Int32)) hx hb dX11_mayAskFor_14 (by decide) ?_
    refine lv_goto (tgt := 19) hx hb dX11_mayAskFor_15 (by decide) ?_
    cases h
    exact r_zret C hw rfl (by decide) (by decide) (by decide) dX11_mayAskFor_19
  · replace h := ite_f h c1
    refine lv_iload_n hx hb dX11_mayAskFor_6 rfl (lv_at hl 0 rfl) ?_
    refine lv_iload_n hx hb dX11_mayAskFor_7 rfl (lv_at hl 1 rfl) ?_
    obtain ⟨y2, sg3, hq4, h2⟩ := bnd2_some h
    replace h := h2
    clear h2
    refine r_cSi (As := [.int v0, .int v1]) (rest := []) C hw (mX11_isOther l D T ad lg H.size v0 v1 sg hq4) (va_cwS 2 hts gX11_mayAskFor_X11_isOther rfl rfl rfl (by decide +kernel) ⟨Nat.le_of_ble_eq_true rfl, Nat.le_of_ble_eq_true rfl⟩) rfl hl.1 rfl (Nat.le_of_ble_eq_true rfl) dX11_mayAskFor_8 ⟨Nat.le_of_ble_eq_true rfl, Nat.le_of_ble_eq_true rfl⟩ (fun ad' H locs hp hw => ?_)
    subst hp
    refine W.widen (k := 0) (n := 0) (by decide) (by decide) ?_
    refine lv_if_eq (tgt := 18) hx hb dX11_mayAskFor_11 (by decide) (fun c5 => ?_) (fun c5 => ?_)
    · replace h := ite_t h c5
      refine lv_iconst (v := (0 : Int32)) hx hb dX11_mayAskFor_18 (by decide) ?_
      cases h
      exact r_zret C hw rfl (by decide) (by decide) (by decide) dX11_mayAskFor_19
    · replace h := ite_f h c5
      refine lv_iconst (v := (1 : Int32)) hx hb dX11_mayAskFor_14 (by decide) ?_
      refine lv_goto (tgt := 19) hx hb dX11_mayAskFor_15 (by decide) ?_
      cases h
      exact r_zret C hw rfl (by decide) (by decide) (by decide) dX11_mayAskFor_19
theorem mX11_mayAskFor (l : Launch) (D : va_G) (T : Nat → ClassId) (ad : Nat → Nat) (lg : Lg) (sz : Nat)   (v0 : Int32) (v1 : Int32) (sg : Sg) {ro : Int32} {so : Sg} (h : fX11_mayAskFor v0 v1 sg = some (ro, so)) : Met l yX11_mayAskFor wsX11_mayAskFor rmX11_mayAskFor (PreZ ZC D vwCl T (tysC T) ad sg lg true nwL [.int v0, .int v1] sz) (QI ZC D vwCl T (tysC T) (va_A (zwd ZC T ad sg lg) sz) (fun z => ad = z) ro so lg) 0 0 (va_A (zwd ZC T ad sg lg) sz) :=
  metZ [.int v0, .int v1] sz (by decide) rfl (Nat.le_of_ble_eq_true rfl) (fun p e s m below meth c ls C hw hl => tX11_mayAskFor_0 C v0 v1 sg _ _ _ hw hl h)
-- PeckYard$Changes.step(LPeckYard$Flock;)V
def rmX1_step : Room := { frames := 1, cells := 0, slots := 0, locals := 22 }
theorem kX1_step_f34 : Cond.fieldLink RX1 34 "PeckYard$Flock" "stamp" "I" ∈ wsX1_step := by decide +kernel
theorem kX1_step_iX2 : ∀ w ∈ u_ws RX2 TX2 7, w ∈ wsX1_step := by decide +kernel
theorem kX1_step_f18 : Cond.fieldLink RX1 18 "PeckYard$Changes" "next" "I" ∈ wsX1_step := by decide +kernel
theorem kX1_step_iX1 : ∀ w ∈ u_ws RX1 TX1 3, w ∈ wsX1_step := by decide +kernel
theorem kX1_step_f39 : Cond.fieldLink RX1 39 "PeckYard$Changes" "kept" "I" ∈ wsX1_step := by decide +kernel
theorem kX1_step_m42 : Cond.methodLink RX1 42 Lib.Math.min.name ∈ wsX1_step := by decide +kernel
theorem kX1_step_s42 : Cond.static Lib.Math.min.name ∈ wsX1_step := by decide +kernel
theorem kX1_step_ini_Math : Cond.initialized "java/lang/Math" ∈ wsX1_step := by decide +kernel
theorem kX1_step_cd42 : Cond.code Lib.Math.min.name Lib.Math.min.code 2 (some .int) ∈ wsX1_step := by decide +kernel
def fX1_step  (sg : Sg) : Option (Sg) :=
  lt ((sg 1 1) + (1 : Int32)) (fun x1 => lt (up2 sg 1 1 x1) (fun sg2 => lt (((sg2 2 1) + (1 : Int32)) - ((sg2 2 1) + (1 : Int32)) / (8 : Int32) * (8 : Int32)) (fun x3 => lt (up2 sg2 2 1 x3) (fun sg4 => lt (if (8 : Int32) < ((sg4 2 0) + (1 : Int32)) then (8 : Int32) else ((sg4 2 0) + (1 : Int32))) (fun x5 => lt (up2 sg4 2 0 x5) (fun sg6 => some sg6))))))
set_option maxHeartbeats 4000000 in
set_option maxRecDepth 100000 in
theorem tX1_step_0 (C : Cx p s m args meth c cX1_step 2 RX1 wsX1_step none D vwCl (tysC T) A true nwL) {so : Sg}   : ∀ (sg : Sg), ∀ (H : Heap) (locs : List Loc) (ls : Array Slot), WS ZC D vwCl T ad sg lg A s.heap H locs → lv_has ls 2 [(0, .ref (ad 2)), (1, .ref (ad 1))] → fX1_step sg = some so → W p l e rmX1_step s m args below meth c H locs 0 0 (MQ below (QV ZC D vwCl T (tysC T) A (fun z => ad = z) so lg) args s 0 0 A) (F0 m 0 ls []) := by
  obtain ⟨⟨hx, hb, hml, hown, hts⟩, hr, hlk, hK, hA, hsp⟩ := id C
  intro sg H locs ls hw hl h
  unfold fX1_step at h
  refine lv_aload_n hx hb dX1_step_0 rfl (lv_at hl 1 rfl) ?_
  refine lv_dup hx hb dX1_step_1 rfl ?_
  refine r_getI (ci := 2) (C := RX2) (U := TX2) (N := 7) hx hb hts kX1_step_iX2 hown hK hw 1 (by decide) rfl rfl 1 (by decide) rfl (hts _ kX1_step_f34) (fun _ h9 => h9) dX1_step_2 ?_
  refine lv_iconst (v := (1 : Int32)) hx hb dX1_step_5 (by decide) ?_
  refine lv_iadd hx hb dX1_step_6 ?_
  refine lv_topi (fun x1 ex1 => ?_)
  replace h := lt_get h x1 ex1
  refine r_putI ZC_ok (ci := 2) (C := RX2) (U := TX2) (N := 7) (ty := .int) hx hb hts kX1_step_iX2 tyX2 tyX2_ok nmX2 hown hK hw 1 (by decide) rfl rfl 1 (by decide) rfl (hts _ kX1_step_f34) (fun _ h9 => h9) rfl (by decide +kernel) rfl rfl dX1_step_7 (fun H locs sg2 esg2 hw => ?_)
  replace h := lt_get h sg2 esg2
  refine lv_aload_n hx hb dX1_step_10 rfl (lv_at hl 0 rfl) ?_
  refine lv_aload_n hx hb dX1_step_11 rfl (lv_at hl 0 rfl) ?_
  refine r_getI (ci := 1) (C := RX1) (U := TX1) (N := 3) hx hb hts kX1_step_iX1 hown hK hw 2 (by decide) rfl rfl 1 (by decide) rfl (hts _ kX1_step_f18) (fun _ h9 => h9) dX1_step_12 ?_
  refine lv_iconst (v := (1 : Int32)) hx hb dX1_step_15 (by decide) ?_
  refine lv_iadd hx hb dX1_step_16 ?_
  refine lv_bipush (v := (8 : Int32)) hx hb dX1_step_17 (by decide) ?_
  refine lv_irem hx hb dX1_step_19 (by decide) ?_
  refine lv_topi (fun x3 ex3 => ?_)
  replace h := lt_get h x3 ex3
  refine r_putI ZC_ok (ci := 1) (C := RX1) (U := TX1) (N := 3) (ty := .int) hx hb hts kX1_step_iX1 tyX1 tyX1_ok nmX1 hown hK hw 2 (by decide) rfl rfl 1 (by decide) rfl (hts _ kX1_step_f18) (fun _ h9 => h9) rfl (by decide +kernel) rfl rfl dX1_step_20 (fun H locs sg4 esg4 hw => ?_)
  replace h := lt_get h sg4 esg4
  refine lv_aload_n hx hb dX1_step_23 rfl (lv_at hl 0 rfl) ?_
  refine lv_aload_n hx hb dX1_step_24 rfl (lv_at hl 0 rfl) ?_
  refine r_getI (ci := 1) (C := RX1) (U := TX1) (N := 3) hx hb hts kX1_step_iX1 hown hK hw 2 (by decide) rfl rfl 0 (by decide) rfl (hts _ kX1_step_f39) (fun _ h9 => h9) dX1_step_25 ?_
  refine lv_iconst (v := (1 : Int32)) hx hb dX1_step_28 (by decide) ?_
  refine lv_iadd hx hb dX1_step_29 ?_
  refine lv_bipush (v := (8 : Int32)) hx hb dX1_step_30 (by decide) ?_
  refine va_mmin hx hb (hml.trans hl.1.symm) hown (hts _ kX1_step_m42) (hts _ kX1_step_s42) (hts _ kX1_step_ini_Math) (hts _ kX1_step_cd42) (Nat.le_of_ble_eq_true rfl) (Nat.le_of_ble_eq_true rfl) (Nat.le_of_ble_eq_true rfl) (Nat.le_of_ble_eq_true rfl) dX1_step_32 ?_
  refine lv_topi (fun x5 ex5 => ?_)
  replace h := lt_get h x5 ex5
  refine r_putI ZC_ok (ci := 1) (C := RX1) (U := TX1) (N := 3) (ty := .int) hx hb hts kX1_step_iX1 tyX1 tyX1_ok nmX1 hown hK hw 2 (by decide) rfl rfl 0 (by decide) rfl (hts _ kX1_step_f39) (fun _ h9 => h9) rfl (by decide +kernel) rfl rfl dX1_step_35 (fun H locs sg6 esg6 hw => ?_)
  replace h := lt_get h sg6 esg6
  cases h
  exact r_vret C hw rfl (by decide) (by decide) dX1_step_38
theorem mX1_step (l : Launch) (D : va_G) (T : Nat → ClassId) (ad : Nat → Nat) (lg : Lg) (sz : Nat)   (sg : Sg) {so : Sg} (h : fX1_step sg = some so) : Met l yX1_step wsX1_step rmX1_step (PreZ ZC D vwCl T (tysC T) ad sg lg true nwL [.ref (ad 2), .ref (ad 1)] sz) (QV ZC D vwCl T (tysC T) (va_A (zwd ZC T ad sg lg) sz) (fun z => ad = z) so lg) 0 0 (va_A (zwd ZC T ad sg lg) sz) :=
  metZ [.ref (ad 2), .ref (ad 1)] sz (by decide) rfl (Nat.le_of_ble_eq_true rfl) (fun p e s m below meth c ls C hw hl => tX1_step_0 C sg _ _ _ hw hl h)
-- PeckYard$Changes.keepNewHen(LPeckYard$Flock;)V
def rmX1_keepNewHen : Room := { frames := 2, cells := 0, slots := 0, locals := 43 }
theorem kX1_keepNewHen_f11 : Cond.fieldLink RX1 11 "PeckYard$Changes" "row" "[LPeckYard$Change;" ∈ wsX1_keepNewHen := by decide +kernel
theorem kX1_keepNewHen_iX1 : ∀ w ∈ u_ws RX1 TX1 3, w ∈ wsX1_keepNewHen := by decide +kernel
theorem kX1_keepNewHen_f18 : Cond.fieldLink RX1 18 "PeckYard$Changes" "next" "I" ∈ wsX1_keepNewHen := by decide +kernel
theorem kX1_keepNewHen_f22 : Cond.fieldLink RX1 22 "PeckYard$Change" "isNewHen" "Z" ∈ wsX1_keepNewHen := by decide +kernel
theorem kX1_keepNewHen_iX0 : ∀ w ∈ u_ws RX0 TX0 6, w ∈ wsX1_keepNewHen := by decide +kernel
def fX1_keepNewHen  (sg : Sg) : Option (Sg) :=
  lt (sg 2 1) (fun x1 => gin x1 8 (lt (up2 sg (47 + x1.toNatClampNeg) 0 (1 : Int32)) (fun sg3 => bnd1 (fX1_step sg3) (fun sg4 => some sg4))))
set_option maxHeartbeats 4000000 in
set_option maxRecDepth 100000 in
theorem tX1_keepNewHen_0 (C : Cx p s m args meth c cX1_keepNewHen 2 RX1 wsX1_keepNewHen none D vwCl (tysC T) A true nwL) {so : Sg}   : ∀ (sg : Sg), ∀ (H : Heap) (locs : List Loc) (ls : Array Slot), WS ZC D vwCl T ad sg lg A s.heap H locs → lv_has ls 2 [(0, .ref (ad 2)), (1, .ref (ad 1))] → fX1_keepNewHen sg = some so → W p l e rmX1_keepNewHen s m args below meth c H locs 0 0 (MQ below (QV ZC D vwCl T (tysC T) A (fun z => ad = z) so lg) args s 0 0 A) (F0 m 0 ls []) := by
  obtain ⟨⟨hx, hb, hml, hown, hts⟩, hr, hlk, hK, hA, hsp⟩ := id C
  intro sg H locs ls hw hl h
  unfold fX1_keepNewHen at h
  refine lv_aload_n hx hb dX1_keepNewHen_0 rfl (lv_at hl 0 rfl) ?_
  refine r_getR (ci := 1) (C := RX1) (U := TX1) (N := 3) hx hb hts kX1_keepNewHen_iX1 hown hK hw 2 (by decide) rfl rfl 2 (by decide) 16 rfl (hts _ kX1_keepNewHen_f11) (fun _ h9 => h9) dX1_keepNewHen_1 ?_
  refine lv_aload_n hx hb dX1_keepNewHen_4 rfl (lv_at hl 0 rfl) ?_
  refine r_getI (ci := 1) (C := RX1) (U := TX1) (N := 3) hx hb hts kX1_keepNewHen_iX1 hown hK hw 2 (by decide) rfl rfl 1 (by decide) rfl (hts _ kX1_keepNewHen_f18) (fun _ h9 => h9) dX1_keepNewHen_5 ?_
  refine lv_topi (fun x1 ex1 => ?_)
  replace h := lt_get h x1 ex1
  have hi2 := (gin_some h).1
  replace h := (gin_some h).2
  refine r_qald hx hb hK hw 16 2 8 (by decide) rfl rfl rfl hi2 dX1_keepNewHen_8 rfl ?_
  refine lv_iconst (v := (1 : Int32)) hx hb dX1_keepNewHen_9 (by decide) ?_
  refine r_putI ZC_ok (ci := 0) (C := RX0) (U := TX0) (N := 6) (ty := .boolean) hx hb hts kX1_keepNewHen_iX0 tyX0 tyX0_ok nmX0 hown hK hw (47 + x1.toNatClampNeg) (zH_n (vin_lt hi2)) (zH_s (vin_lt hi2)) rfl 0 (by decide) rfl (hts _ kX1_keepNewHen_f22) (fun _ h9 => h9) rfl (by decide +kernel) (by decide) rfl dX1_keepNewHen_10 (fun H locs sg3 esg3 hw => ?_)
  replace h := lt_get h sg3 esg3
  refine lv_aload_n hx hb dX1_keepNewHen_13 rfl (lv_at hl 0 rfl) ?_
  refine lv_aload_n hx hb dX1_keepNewHen_14 rfl (lv_at hl 1 rfl) ?_
  obtain ⟨sg4, hq5, h2⟩ := bnd1_some h
  replace h := h2
  clear h2
  refine r_cVv (As := [.ref (ad 1)]) (rest := []) C hw 2 (by decide) (ci := 1) rfl rfl (mX1_step l D T ad lg H.size sg3 hq5) (cwV 1 hts gX1_keepNewHen_X1_step rfl rfl rfl (by decide +kernel) ⟨Nat.le_of_ble_eq_true rfl, Nat.le_of_ble_eq_true rfl⟩) rfl hl.1 rfl (Nat.le_of_ble_eq_true rfl) dX1_keepNewHen_15 ⟨Nat.le_of_ble_eq_true rfl, Nat.le_of_ble_eq_true rfl⟩ (fun ad' H locs hp hw => ?_)
  subst hp
  refine W.widen (k := 0) (n := 0) (by decide) (by decide) ?_
  cases h
  exact r_vret C hw rfl (by decide) (by decide) dX1_keepNewHen_18
theorem mX1_keepNewHen (l : Launch) (D : va_G) (T : Nat → ClassId) (ad : Nat → Nat) (lg : Lg) (sz : Nat)   (sg : Sg) {so : Sg} (h : fX1_keepNewHen sg = some so) : Met l yX1_keepNewHen wsX1_keepNewHen rmX1_keepNewHen (PreZ ZC D vwCl T (tysC T) ad sg lg true nwL [.ref (ad 2), .ref (ad 1)] sz) (QV ZC D vwCl T (tysC T) (va_A (zwd ZC T ad sg lg) sz) (fun z => ad = z) so lg) 0 0 (va_A (zwd ZC T ad sg lg) sz) :=
  metZ [.ref (ad 2), .ref (ad 1)] sz (by decide) rfl (Nat.le_of_ble_eq_true rfl) (fun p e s m below meth c ls C hw hl => tX1_keepNewHen_0 C sg _ _ _ hw hl h)
-- PeckYard$Flock.renewPen(II)V
def rmX2_renewPen : Room := { frames := 0, cells := 0, slots := 0, locals := 0 }
theorem kX2_renewPen_f21 : Cond.fieldLink RX2 21 "PeckYard$Flock" "width" "[I" ∈ wsX2_renewPen := by decide +kernel
theorem kX2_renewPen_iX2 : ∀ w ∈ u_ws RX2 TX2 7, w ∈ wsX2_renewPen := by decide +kernel
theorem kX2_renewPen_f24 : Cond.fieldLink RX2 24 "PeckYard$Flock" "weights" "[I" ∈ wsX2_renewPen := by decide +kernel
def fX2_renewPen_9 (r9 : (Int32 × Int32 × Sg) → Option (Sg)) (v1 : Int32) (v3 : Int32) (sg : Sg) : Option (Sg) :=
  (if (12 : Int32) ≤ v3 then some sg else gin ((v1 * (12 : Int32)) + v3) 144 (lt (up2 sg 15 ((v1 * (12 : Int32)) + v3).toNatClampNeg (0 : Int32)) (fun sg3 => lt (v3 + (1 : Int32)) (fun x4 => r9 (v1, x4, sg3)))))
set_option maxHeartbeats 4000000 in
set_option maxRecDepth 100000 in
theorem tX2_renewPen_9 (C : Cx p s m args meth c cX2_renewPen 4 RX2 wsX2_renewPen none D vwCl (tysC T) A true nwL) {so : Sg} {r9 : (Int32 × Int32 × Sg) → Option (Sg)} (hr9 : ∀ (v1 : Int32) (v3 : Int32) (sg : Sg), r9 (v1, v3, sg) = some so → ∀ (H : Heap) (locs : List Loc) (ls : Array Slot), WS ZC D vwCl T ad sg lg A s.heap H locs → lv_has ls 4 [(0, .ref (ad 1)), (1, .int v1), (3, .int v3)] → W p l e rmX2_renewPen s m args below meth c H locs 0 0 (MQ below (QV ZC D vwCl T (tysC T) A (fun z => ad = z) so lg) args s 0 0 A) (F0 m 9 ls [])) : ∀ (v1 : Int32) (v3 : Int32) (sg : Sg), ∀ (H : Heap) (locs : List Loc) (ls : Array Slot), WS ZC D vwCl T ad sg lg A s.heap H locs → lv_has ls 4 [(0, .ref (ad 1)), (1, .int v1), (3, .int v3)] → fX2_renewPen_9 r9 v1 v3 sg = some so → W p l e rmX2_renewPen s m args below meth c H locs 0 0 (MQ below (QV ZC D vwCl T (tysC T) A (fun z => ad = z) so lg) args s 0 0 A) (F0 m 9 ls []) := by
  obtain ⟨⟨hx, hb, hml, hown, hts⟩, hr, hlk, hK, hA, hsp⟩ := id C
  intro v1 v3 sg H locs ls hw hl h
  unfold fX2_renewPen_9 at h
  refine lv_iload_n hx hb dX2_renewPen_9 rfl (lv_at hl 2 rfl) ?_
  refine lv_bipush (v := (12 : Int32)) hx hb dX2_renewPen_10 (by decide) ?_
  refine lv_icmp_ge (tgt := 33) hx hb dX2_renewPen_12 (by decide) (fun c1 => ?_) (fun c1 => ?_)
  · replace h := ite_t h c1
    cases h
    exact r_vret C hw rfl (by decide) (by decide) dX2_renewPen_33
  · replace h := ite_f h c1
    refine lv_aload_n hx hb dX2_renewPen_15 rfl (lv_at hl 0 rfl) ?_
    refine r_getR (ci := 2) (C := RX2) (U := TX2) (N := 7) hx hb hts kX2_renewPen_iX2 hown hK hw 1 (by decide) rfl rfl 6 (by decide) 15 rfl (hts _ kX2_renewPen_f24) (fun _ h9 => h9) dX2_renewPen_16 ?_
    refine lv_iload_n hx hb dX2_renewPen_19 rfl (lv_at hl 1 rfl) ?_
    refine lv_bipush (v := (12 : Int32)) hx hb dX2_renewPen_20 (by decide) ?_
    refine lv_imul hx hb dX2_renewPen_22 ?_
    refine lv_iload_n hx hb dX2_renewPen_23 rfl (lv_at hl 2 rfl) ?_
    refine lv_iadd hx hb dX2_renewPen_24 ?_
    refine lv_iconst (v := (0 : Int32)) hx hb dX2_renewPen_25 (by decide) ?_
    have hi2 := (gin_some h).1
    replace h := (gin_some h).2
    refine r_iast ZC_ok hx hb hK hw 15 0 144 (by decide) rfl rfl rfl hi2 dX2_renewPen_26 (fun H locs sg3 esg3 hw => ?_)
    replace h := lt_get h sg3 esg3
    obtain ⟨x4, ex4⟩ : ∃ z : Int32, z = (v3 + (1 : Int32)) := ⟨_, rfl⟩
    replace h := lt_get h x4 ex4
    refine lv_iinc (v := x4) (lv' := [(3, .int x4), (0, .ref (ad 1)), (1, .int v1)]) hx hb dX2_renewPen_27 hl (k := 2) rfl (by rw [ex4]; rfl) (by decide) rfl (fun ls hl => ?_)
    refine lv_goto (tgt := 9) hx hb dX2_renewPen_30 (by decide) ?_
    exact hr9 v1 x4 sg3 h _ _ _ hw (lv_sub hl [1, 2, 0] rfl)
def LX2_renewPen_9  : (Int32 × Int32 × Sg) → Option (Sg) := loop (fun rec z => fX2_renewPen_9 rec z.1 z.2.1 z.2.2)
theorem TX2_renewPen_9 (C : Cx p s m args meth c cX2_renewPen 4 RX2 wsX2_renewPen none D vwCl (tysC T) A true nwL) {so : Sg}   : ∀ (v1 : Int32) (v3 : Int32) (sg : Sg), LX2_renewPen_9 (v1, v3, sg) = some so → ∀ (H : Heap) (locs : List Loc) (ls : Array Slot), WS ZC D vwCl T ad sg lg A s.heap H locs → lv_has ls 4 [(0, .ref (ad 1)), (1, .int v1), (3, .int v3)] → W p l e rmX2_renewPen s m args below meth c H locs 0 0 (MQ below (QV ZC D vwCl T (tysC T) A (fun z => ad = z) so lg) args s 0 0 A) (F0 m 9 ls []) := by
  have key : ∀ z : (Int32 × Int32 × Sg), LX2_renewPen_9  z = some so → ∀ (H : Heap) (locs : List Loc) (ls : Array Slot), WS ZC D vwCl T ad z.2.2 lg A s.heap H locs → lv_has ls 4 [(0, .ref (ad 1)), (1, .int z.1), (3, .int z.2.1)] → W p l e rmX2_renewPen s m args below meth c H locs 0 0 (MQ below (QV ZC D vwCl T (tysC T) A (fun z => ad = z) so lg) args s 0 0 A) (F0 m 9 ls []) := by
    intro z h
    unfold LX2_renewPen_9 at h
    exact loop_ind (fun rec z => fX2_renewPen_9 rec z.1 z.2.1 z.2.2) (y := so) (P := fun z => ∀ (H : Heap) (locs : List Loc) (ls : Array Slot), WS ZC D vwCl T ad z.2.2 lg A s.heap H locs → lv_has ls 4 [(0, .ref (ad 1)), (1, .int z.1), (3, .int z.2.1)] → W p l e rmX2_renewPen s m args below meth c H locs 0 0 (MQ below (QV ZC D vwCl T (tysC T) A (fun z => ad = z) so lg) args s 0 0 A) (F0 m 9 ls [])) (fun rec hrec z h H locs ls hw hl => tX2_renewPen_9 C  (fun v1 v3 sg => hrec (v1, v3, sg)) z.1 z.2.1 z.2.2 H locs ls hw hl h) z h
  exact fun v1 v3 sg => key (v1, v3, sg)
def fX2_renewPen  (v1 : Int32) (v2 : Int32) (sg : Sg) : Option (Sg) :=
  gin v1 12 (lt (up2 sg 14 v1.toNatClampNeg v2) (fun sg2 => LX2_renewPen_9 (v1, (0 : Int32), sg2)))
set_option maxHeartbeats 4000000 in
set_option maxRecDepth 100000 in
theorem tX2_renewPen_0 (C : Cx p s m args meth c cX2_renewPen 4 RX2 wsX2_renewPen none D vwCl (tysC T) A true nwL) {so : Sg}   : ∀ (v1 : Int32) (v2 : Int32) (sg : Sg), ∀ (H : Heap) (locs : List Loc) (ls : Array Slot), WS ZC D vwCl T ad sg lg A s.heap H locs → lv_has ls 4 [(0, .ref (ad 1)), (1, .int v1), (2, .int v2)] → fX2_renewPen v1 v2 sg = some so → W p l e rmX2_renewPen s m args below meth c H locs 0 0 (MQ below (QV ZC D vwCl T (tysC T) A (fun z => ad = z) so lg) args s 0 0 A) (F0 m 0 ls []) := by
  obtain ⟨⟨hx, hb, hml, hown, hts⟩, hr, hlk, hK, hA, hsp⟩ := id C
  intro v1 v2 sg H locs ls hw hl h
  unfold fX2_renewPen at h
  refine lv_aload_n hx hb dX2_renewPen_0 rfl (lv_at hl 0 rfl) ?_
  refine r_getR (ci := 2) (C := RX2) (U := TX2) (N := 7) hx hb hts kX2_renewPen_iX2 hown hK hw 1 (by decide) rfl rfl 5 (by decide) 14 rfl (hts _ kX2_renewPen_f21) (fun _ h9 => h9) dX2_renewPen_1 ?_
  refine lv_iload_n hx hb dX2_renewPen_4 rfl (lv_at hl 1 rfl) ?_
  refine lv_iload_n hx hb dX2_renewPen_5 rfl (lv_at hl 2 rfl) ?_
  have hi1 := (gin_some h).1
  replace h := (gin_some h).2
  refine r_iast ZC_ok hx hb hK hw 14 0 12 (by decide) rfl rfl rfl hi1 dX2_renewPen_6 (fun H locs sg2 esg2 hw => ?_)
  replace h := lt_get h sg2 esg2
  refine lv_iconst (v := (0 : Int32)) hx hb dX2_renewPen_7 (by decide) ?_
  refine lv_istore_n (lv' := [(3, .int (0 : Int32)), (0, .ref (ad 1)), (1, .int v1), (2, .int v2)]) hx hb dX2_renewPen_8 rfl hl (by decide) rfl (fun ls hl => ?_)
  exact TX2_renewPen_9 C v1 (0 : Int32) sg2 h _ _ _ hw (lv_sub hl [1, 2, 0] rfl)
theorem mX2_renewPen (l : Launch) (D : va_G) (T : Nat → ClassId) (ad : Nat → Nat) (lg : Lg) (sz : Nat)   (v1 : Int32) (v2 : Int32) (sg : Sg) {so : Sg} (h : fX2_renewPen v1 v2 sg = some so) : Met l yX2_renewPen wsX2_renewPen rmX2_renewPen (PreZ ZC D vwCl T (tysC T) ad sg lg true nwL [.ref (ad 1), .int v1, .int v2] sz) (QV ZC D vwCl T (tysC T) (va_A (zwd ZC T ad sg lg) sz) (fun z => ad = z) so lg) 0 0 (va_A (zwd ZC T ad sg lg) sz) :=
  metZ [.ref (ad 1), .int v1, .int v2] sz (by decide) rfl (Nat.le_of_ble_eq_true rfl) (fun p e s m below meth c ls C hw hl => tX2_renewPen_0 C v1 v2 sg _ _ _ hw hl h)
-- PeckYard$Flock.addHen(II)V
def rmX2_addHen : Room := { frames := 1, cells := 0, slots := 0, locals := 23 }
theorem kX2_addHen_f9 : Cond.fieldLink RX2 9 "PeckYard$Flock" "kind" "[I" ∈ wsX2_addHen := by decide +kernel
theorem kX2_addHen_iX2 : ∀ w ∈ u_ws RX2 TX2 7, w ∈ wsX2_addHen := by decide +kernel
theorem kX2_addHen_f27 : Cond.fieldLink RX2 27 "PeckYard$Flock" "size" "I" ∈ wsX2_addHen := by decide +kernel
theorem kX2_addHen_f15 : Cond.fieldLink RX2 15 "PeckYard$Flock" "asks" "[I" ∈ wsX2_addHen := by decide +kernel
theorem kX2_addHen_f18 : Cond.fieldLink RX2 18 "PeckYard$Flock" "takenIn" "[I" ∈ wsX2_addHen := by decide +kernel
def fX2_addHen  (v1 : Int32) (v2 : Int32) (sg : Sg) : Option (Sg) :=
  gin (sg 1 0) 12 (lt (up2 sg 11 (sg 1 0).toNatClampNeg v1) (fun sg2 => gin (sg2 1 0) 12 (lt (up2 sg2 12 (sg2 1 0).toNatClampNeg v2) (fun sg4 => gin (sg4 1 0) 12 (lt (up2 sg4 13 (sg4 1 0).toNatClampNeg (0 : Int32)) (fun sg6 => bnd1 (fX2_renewPen (sg6 1 0) (-1 : Int32) sg6) (fun sg7 => lt ((sg7 1 0) + (1 : Int32)) (fun x9 => lt (up2 sg7 1 0 x9) (fun sg10 => some sg10)))))))))
set_option maxHeartbeats 4000000 in
set_option maxRecDepth 100000 in
theorem tX2_addHen_0 (C : Cx p s m args meth c cX2_addHen 3 RX2 wsX2_addHen none D vwCl (tysC T) A true nwL) {so : Sg}   : ∀ (v1 : Int32) (v2 : Int32) (sg : Sg), ∀ (H : Heap) (locs : List Loc) (ls : Array Slot), WS ZC D vwCl T ad sg lg A s.heap H locs → lv_has ls 3 [(0, .ref (ad 1)), (1, .int v1), (2, .int v2)] → fX2_addHen v1 v2 sg = some so → W p l e rmX2_addHen s m args below meth c H locs 0 0 (MQ below (QV ZC D vwCl T (tysC T) A (fun z => ad = z) so lg) args s 0 0 A) (F0 m 0 ls []) := by
  obtain ⟨⟨hx, hb, hml, hown, hts⟩, hr, hlk, hK, hA, hsp⟩ := id C
  intro v1 v2 sg H locs ls hw hl h
  unfold fX2_addHen at h
  refine lv_aload_n hx hb dX2_addHen_0 rfl (lv_at hl 0 rfl) ?_
  refine r_getR (ci := 2) (C := RX2) (U := TX2) (N := 7) hx hb hts kX2_addHen_iX2 hown hK hw 1 (by decide) rfl rfl 2 (by decide) 11 rfl (hts _ kX2_addHen_f9) (fun _ h9 => h9) dX2_addHen_1 ?_
  refine lv_aload_n hx hb dX2_addHen_4 rfl (lv_at hl 0 rfl) ?_
  refine r_getI (ci := 2) (C := RX2) (U := TX2) (N := 7) hx hb hts kX2_addHen_iX2 hown hK hw 1 (by decide) rfl rfl 0 (by decide) rfl (hts _ kX2_addHen_f27) (fun _ h9 => h9) dX2_addHen_5 ?_
  refine lv_iload_n hx hb dX2_addHen_8 rfl (lv_at hl 1 rfl) ?_
  have hi1 := (gin_some h).1
  replace h := (gin_some h).2
  refine r_iast ZC_ok hx hb hK hw 11 0 12 (by decide) rfl rfl rfl hi1 dX2_addHen_9 (fun H locs sg2 esg2 hw => ?_)
  replace h := lt_get h sg2 esg2
  refine lv_aload_n hx hb dX2_addHen_10 rfl (lv_at hl 0 rfl) ?_
  refine r_getR (ci := 2) (C := RX2) (U := TX2) (N := 7) hx hb hts kX2_addHen_iX2 hown hK hw 1 (by decide) rfl rfl 3 (by decide) 12 rfl (hts _ kX2_addHen_f15) (fun _ h9 => h9) dX2_addHen_11 ?_
  refine lv_aload_n hx hb dX2_addHen_14 rfl (lv_at hl 0 rfl) ?_
  refine r_getI (ci := 2) (C := RX2) (U := TX2) (N := 7) hx hb hts kX2_addHen_iX2 hown hK hw 1 (by decide) rfl rfl 0 (by decide) rfl (hts _ kX2_addHen_f27) (fun _ h9 => h9) dX2_addHen_15 ?_
  refine lv_iload_n hx hb dX2_addHen_18 rfl (lv_at hl 2 rfl) ?_
  have hi3 := (gin_some h).1
  replace h := (gin_some h).2
  refine r_iast ZC_ok hx hb hK hw 12 0 12 (by decide) rfl rfl rfl hi3 dX2_addHen_19 (fun H locs sg4 esg4 hw => ?_)
  replace h := lt_get h sg4 esg4
  refine lv_aload_n hx hb dX2_addHen_20 rfl (lv_at hl 0 rfl) ?_
  refine r_getR (ci := 2) (C := RX2) (U := TX2) (N := 7) hx hb hts kX2_addHen_iX2 hown hK hw 1 (by decide) rfl rfl 4 (by decide) 13 rfl (hts _ kX2_addHen_f18) (fun _ h9 => h9) dX2_addHen_21 ?_
  refine lv_aload_n hx hb dX2_addHen_24 rfl (lv_at hl 0 rfl) ?_
  refine r_getI (ci := 2) (C := RX2) (U := TX2) (N := 7) hx hb hts kX2_addHen_iX2 hown hK hw 1 (by decide) rfl rfl 0 (by decide) rfl (hts _ kX2_addHen_f27) (fun _ h9 => h9) dX2_addHen_25 ?_
  refine lv_iconst (v := (0 : Int32)) hx hb dX2_addHen_28 (by decide) ?_
  have hi5 := (gin_some h).1
  replace h := (gin_some h).2
  refine r_iast ZC_ok hx hb hK hw 13 0 12 (by decide) rfl rfl rfl hi5 dX2_addHen_29 (fun H locs sg6 esg6 hw => ?_)
  replace h := lt_get h sg6 esg6
  refine lv_aload_n hx hb dX2_addHen_30 rfl (lv_at hl 0 rfl) ?_
  refine lv_aload_n hx hb dX2_addHen_31 rfl (lv_at hl 0 rfl) ?_
  refine r_getI (ci := 2) (C := RX2) (U := TX2) (N := 7) hx hb hts kX2_addHen_iX2 hown hK hw 1 (by decide) rfl rfl 0 (by decide) rfl (hts _ kX2_addHen_f27) (fun _ h9 => h9) dX2_addHen_32 ?_
  refine lv_iconst (v := (-1 : Int32)) hx hb dX2_addHen_35 (by decide) ?_
  obtain ⟨sg7, hq8, h2⟩ := bnd1_some h
  replace h := h2
  clear h2
  refine r_cVv (As := [.int (sg6 1 0), .int (-1 : Int32)]) (rest := []) C hw 1 (by decide) (ci := 2) rfl rfl (mX2_renewPen l D T ad lg H.size (sg6 1 0) (-1 : Int32) sg6 hq8) (cwV 2 hts gX2_addHen_X2_renewPen rfl rfl rfl (by decide +kernel) ⟨Nat.le_of_ble_eq_true rfl, Nat.le_of_ble_eq_true rfl⟩) rfl hl.1 rfl (Nat.le_of_ble_eq_true rfl) dX2_addHen_36 ⟨Nat.le_of_ble_eq_true rfl, Nat.le_of_ble_eq_true rfl⟩ (fun ad' H locs hp hw => ?_)
  subst hp
  refine W.widen (k := 0) (n := 0) (by decide) (by decide) ?_
  refine lv_aload_n hx hb dX2_addHen_39 rfl (lv_at hl 0 rfl) ?_
  refine lv_dup hx hb dX2_addHen_40 rfl ?_
  refine r_getI (ci := 2) (C := RX2) (U := TX2) (N := 7) hx hb hts kX2_addHen_iX2 hown hK hw 1 (by decide) rfl rfl 0 (by decide) rfl (hts _ kX2_addHen_f27) (fun _ h9 => h9) dX2_addHen_41 ?_
  refine lv_iconst (v := (1 : Int32)) hx hb dX2_addHen_44 (by decide) ?_
  refine lv_iadd hx hb dX2_addHen_45 ?_
  refine lv_topi (fun x9 ex9 => ?_)
  replace h := lt_get h x9 ex9
  refine r_putI ZC_ok (ci := 2) (C := RX2) (U := TX2) (N := 7) (ty := .int) hx hb hts kX2_addHen_iX2 tyX2 tyX2_ok nmX2 hown hK hw 1 (by decide) rfl rfl 0 (by decide) rfl (hts _ kX2_addHen_f27) (fun _ h9 => h9) rfl (by decide +kernel) rfl rfl dX2_addHen_46 (fun H locs sg10 esg10 hw => ?_)
  replace h := lt_get h sg10 esg10
  cases h
  exact r_vret C hw rfl (by decide) (by decide) dX2_addHen_49
theorem mX2_addHen (l : Launch) (D : va_G) (T : Nat → ClassId) (ad : Nat → Nat) (lg : Lg) (sz : Nat)   (v1 : Int32) (v2 : Int32) (sg : Sg) {so : Sg} (h : fX2_addHen v1 v2 sg = some so) : Met l yX2_addHen wsX2_addHen rmX2_addHen (PreZ ZC D vwCl T (tysC T) ad sg lg true nwL [.ref (ad 1), .int v1, .int v2] sz) (QV ZC D vwCl T (tysC T) (va_A (zwd ZC T ad sg lg) sz) (fun z => ad = z) so lg) 0 0 (va_A (zwd ZC T ad sg lg) sz) :=
  metZ [.ref (ad 1), .int v1, .int v2] sz (by decide) rfl (Nat.le_of_ble_eq_true rfl) (fun p e s m below meth c ls C hw hl => tX2_addHen_0 C v1 v2 sg _ _ _ hw hl h)
-- PeckYard.hen(II)J
def rmX11_hen : Room := { frames := 3, cells := 0, slots := 0, locals := 64 }
theorem kX11_hen_c88 : Cond.constantLong RX11 88 (-2000000001) ∈ wsX11_hen := by decide +kernel
theorem kX11_hen_f10 : Cond.fieldLink RX11 10 "PeckYard" "flock" "LPeckYard$Flock;" ∈ wsX11_hen := by decide +kernel
theorem kX11_hen_iX11 : ∀ w ∈ u_ws RX11 TX11 9, w ∈ wsX11_hen := by decide +kernel
theorem kX11_hen_f80 : Cond.fieldLink RX11 80 "PeckYard$Flock" "size" "I" ∈ wsX11_hen := by decide +kernel
theorem kX11_hen_iX2 : ∀ w ∈ u_ws RX2 TX2 7, w ∈ wsX11_hen := by decide +kernel
theorem kX11_hen_f19 : Cond.fieldLink RX11 19 "PeckYard" "changes" "LPeckYard$Changes;" ∈ wsX11_hen := by decide +kernel
theorem kX11_hen_c90 : Cond.constantLong RX11 90 (-2000000003) ∈ wsX11_hen := by decide +kernel
def fX11_hen  (v1 : Int32) (v2 : Int32) (sg : Sg) : Option (Int64 × Sg) :=
  bnd2 (fX11_isKind v1 sg) (fun y1 sg2 => (if y1 = 0 then some ((-2000000001 : Int64), sg2) else bnd2 (fX11_mayAskFor (sg2 1 0) v2 sg2) (fun y5 sg6 => (if y5 = 0 then some ((-2000000001 : Int64), sg6) else (if (sg6 1 0) < (12 : Int32) then bnd1 (fX1_keepNewHen sg6) (fun sg10 => bnd1 (fX2_addHen v1 v2 sg10) (fun sg12 => some (((sg12 1 0) - (1 : Int32)).toInt64, sg12))) else some ((-2000000003 : Int64), sg6))))))
set_option maxHeartbeats 4000000 in
set_option maxRecDepth 100000 in
theorem tX11_hen_0 (C : Cx p s m args meth c cX11_hen 3 RX11 wsX11_hen (some .long) D vwCl (tysC T) A true nwL) {ro : Int64} {so : Sg}   : ∀ (v1 : Int32) (v2 : Int32) (sg : Sg), ∀ (H : Heap) (locs : List Loc) (ls : Array Slot), WS ZC D vwCl T ad sg lg A s.heap H locs → lv_has ls 3 [(0, .ref (ad 0)), (1, .int v1), (2, .int v2)] → fX11_hen v1 v2 sg = some (ro, so) → W p l e rmX11_hen s m args below meth c H locs 0 0 (MQ below (QL ZC D vwCl T (tysC T) A (fun z => ad = z) ro so lg) args s 0 0 A) (F0 m 0 ls []) := by
  obtain ⟨⟨hx, hb, hml, hown, hts⟩, hr, hlk, hK, hA, hsp⟩ := id C
  intro v1 v2 sg H locs ls hw hl h
  unfold fX11_hen at h
  refine lv_iload_n hx hb dX11_hen_0 rfl (lv_at hl 1 rfl) ?_
  obtain ⟨y1, sg2, hq3, h2⟩ := bnd2_some h
  replace h := h2
  clear h2
  refine r_cSi (As := [.int v1]) (rest := []) C hw (mX11_isKind l D T ad lg H.size v1 sg hq3) (va_cwS 1 hts gX11_hen_X11_isKind rfl rfl rfl (by decide +kernel) ⟨Nat.le_of_ble_eq_true rfl, Nat.le_of_ble_eq_true rfl⟩) rfl hl.1 rfl (Nat.le_of_ble_eq_true rfl) dX11_hen_1 ⟨Nat.le_of_ble_eq_true rfl, Nat.le_of_ble_eq_true rfl⟩ (fun ad' H locs hp hw => ?_)
  subst hp
  refine W.widen (k := 0) (n := 0) (by decide) (by decide) ?_
  refine lv_if_eq (tgt := 21) hx hb dX11_hen_4 (by decide) (fun c4 => ?_) (fun c4 => ?_)
  · replace h := ite_t h c4
    refine lv_ldc2 hx hb hown (hts _ kX11_hen_c88) dX11_hen_21 ?_
    cases h
    exact r_lret C hw rfl (by decide) (by decide) dX11_hen_24
  · replace h := ite_f h c4
    refine lv_aload_n hx hb dX11_hen_7 rfl (lv_at hl 0 rfl) ?_
    refine r_getR (ci := 11) (C := RX11) (U := TX11) (N := 9) hx hb hts kX11_hen_iX11 hown hK hw 0 (by decide) rfl rfl 0 (by decide) 1 rfl (hts _ kX11_hen_f10) (fun _ h9 => h9) dX11_hen_8 ?_
    refine r_getI (ci := 2) (C := RX2) (U := TX2) (N := 7) hx hb hts kX11_hen_iX2 hown hK hw 1 (by decide) rfl rfl 0 (by decide) rfl (hts _ kX11_hen_f80) (fun _ h9 => h9) dX11_hen_11 ?_
    refine lv_iload_n hx hb dX11_hen_14 rfl (lv_at hl 2 rfl) ?_
    obtain ⟨y5, sg6, hq7, h2⟩ := bnd2_some h
    replace h := h2
    clear h2
    refine r_cSi (As := [.int (sg2 1 0), .int v2]) (rest := []) C hw (mX11_mayAskFor l D T ad lg H.size (sg2 1 0) v2 sg2 hq7) (va_cwS 2 hts gX11_hen_X11_mayAskFor rfl rfl rfl (by decide +kernel) ⟨Nat.le_of_ble_eq_true rfl, Nat.le_of_ble_eq_true rfl⟩) rfl hl.1 rfl (Nat.le_of_ble_eq_true rfl) dX11_hen_15 ⟨Nat.le_of_ble_eq_true rfl, Nat.le_of_ble_eq_true rfl⟩ (fun ad' H locs hp hw => ?_)
    subst hp
    refine W.widen (k := 0) (n := 0) (by decide) (by decide) ?_
    refine lv_if_ne (tgt := 25) hx hb dX11_hen_18 (by decide) (fun c8 => ?_) (fun c8 => ?_)
    · replace h := ite_f h c8
      refine lv_aload_n hx hb dX11_hen_25 rfl (lv_at hl 0 rfl) ?_
      refine r_getR (ci := 11) (C := RX11) (U := TX11) (N := 9) hx hb hts kX11_hen_iX11 hown hK hw 0 (by decide) rfl rfl 0 (by decide) 1 rfl (hts _ kX11_hen_f10) (fun _ h9 => h9) dX11_hen_26 ?_
      refine r_getI (ci := 2) (C := RX2) (U := TX2) (N := 7) hx hb hts kX11_hen_iX2 hown hK hw 1 (by decide) rfl rfl 0 (by decide) rfl (hts _ kX11_hen_f80) (fun _ h9 => h9) dX11_hen_29 ?_
      refine lv_bipush (v := (12 : Int32)) hx hb dX11_hen_32 (by decide) ?_
      refine lv_icmp_lt (tgt := 41) hx hb dX11_hen_34 (by decide) (fun c9 => ?_) (fun c9 => ?_)
      · replace h := ite_t h c9
        refine lv_aload_n hx hb dX11_hen_41 rfl (lv_at hl 0 rfl) ?_
        refine r_getR (ci := 11) (C := RX11) (U := TX11) (N := 9) hx hb hts kX11_hen_iX11 hown hK hw 0 (by decide) rfl rfl 1 (by decide) 2 rfl (hts _ kX11_hen_f19) (fun _ h9 => h9) dX11_hen_42 ?_
        refine lv_aload_n hx hb dX11_hen_45 rfl (lv_at hl 0 rfl) ?_
        refine r_getR (ci := 11) (C := RX11) (U := TX11) (N := 9) hx hb hts kX11_hen_iX11 hown hK hw 0 (by decide) rfl rfl 0 (by decide) 1 rfl (hts _ kX11_hen_f10) (fun _ h9 => h9) dX11_hen_46 ?_
        obtain ⟨sg10, hq11, h2⟩ := bnd1_some h
        replace h := h2
        clear h2
        refine r_cVv (As := [.ref (ad 1)]) (rest := []) C hw 2 (by decide) (ci := 1) rfl rfl (mX1_keepNewHen l D T ad lg H.size sg6 hq11) (cwV 1 hts gX11_hen_X1_keepNewHen rfl rfl rfl (by decide +kernel) ⟨Nat.le_of_ble_eq_true rfl, Nat.le_of_ble_eq_true rfl⟩) rfl hl.1 rfl (Nat.le_of_ble_eq_true rfl) dX11_hen_49 ⟨Nat.le_of_ble_eq_true rfl, Nat.le_of_ble_eq_true rfl⟩ (fun ad' H locs hp hw => ?_)
        subst hp
        refine W.widen (k := 0) (n := 0) (by decide) (by decide) ?_
        refine lv_aload_n hx hb dX11_hen_52 rfl (lv_at hl 0 rfl) ?_
        refine r_getR (ci := 11) (C := RX11) (U := TX11) (N := 9) hx hb hts kX11_hen_iX11 hown hK hw 0 (by decide) rfl rfl 0 (by decide) 1 rfl (hts _ kX11_hen_f10) (fun _ h9 => h9) dX11_hen_53 ?_
        refine lv_iload_n hx hb dX11_hen_56 rfl (lv_at hl 1 rfl) ?_
        refine lv_iload_n hx hb dX11_hen_57 rfl (lv_at hl 2 rfl) ?_
        obtain ⟨sg12, hq13, h2⟩ := bnd1_some h
        replace h := h2
        clear h2
        refine r_cVv (As := [.int v1, .int v2]) (rest := []) C hw 1 (by decide) (ci := 2) rfl rfl (mX2_addHen l D T ad lg H.size v1 v2 sg10 hq13) (cwV 2 hts gX11_hen_X2_addHen rfl rfl rfl (by decide +kernel) ⟨Nat.le_of_ble_eq_true rfl, Nat.le_of_ble_eq_true rfl⟩) rfl hl.1 rfl (Nat.le_of_ble_eq_true rfl) dX11_hen_58 ⟨Nat.le_of_ble_eq_true rfl, Nat.le_of_ble_eq_true rfl⟩ (fun ad' H locs hp hw => ?_)
        subst hp
        refine W.widen (k := 0) (n := 0) (by decide) (by decide) ?_
        refine lv_aload_n hx hb dX11_hen_61 rfl (lv_at hl 0 rfl) ?_
        refine r_getR (ci := 11) (C := RX11) (U := TX11) (N := 9) hx hb hts kX11_hen_iX11 hown hK hw 0 (by decide) rfl rfl 0 (by decide) 1 rfl (hts _ kX11_hen_f10) (fun _ h9 => h9) dX11_hen_62 ?_
        refine r_getI (ci := 2) (C := RX2) (U := TX2) (N := 7) hx hb hts kX11_hen_iX2 hown hK hw 1 (by decide) rfl rfl 0 (by decide) rfl (hts _ kX11_hen_f80) (fun _ h9 => h9) dX11_hen_65 ?_
        refine lv_iconst (v := (1 : Int32)) hx hb dX11_hen_68 (by decide) ?_
        refine lv_isub hx hb dX11_hen_69 ?_
        refine lv_i2l (v := ((sg12 1 0) - (1 : Int32)).toInt64) hx hb dX11_hen_70 rfl ?_
        cases h
        exact r_lret C hw rfl (by decide) (by decide) dX11_hen_71
      · replace h := ite_f h c9
        refine lv_ldc2 hx hb hown (hts _ kX11_hen_c90) dX11_hen_37 ?_
        cases h
        exact r_lret C hw rfl (by decide) (by decide) dX11_hen_40
    · replace h := ite_t h c8
      refine lv_ldc2 hx hb hown (hts _ kX11_hen_c88) dX11_hen_21 ?_
      cases h
      exact r_lret C hw rfl (by decide) (by decide) dX11_hen_24
theorem mX11_hen (l : Launch) (D : va_G) (T : Nat → ClassId) (ad : Nat → Nat) (lg : Lg) (sz : Nat)   (v1 : Int32) (v2 : Int32) (sg : Sg) {ro : Int64} {so : Sg} (h : fX11_hen v1 v2 sg = some (ro, so)) : Met l yX11_hen wsX11_hen rmX11_hen (PreZ ZC D vwCl T (tysC T) ad sg lg true nwL [.ref (ad 0), .int v1, .int v2] sz) (QL ZC D vwCl T (tysC T) (va_A (zwd ZC T ad sg lg) sz) (fun z => ad = z) ro so lg) 0 0 (va_A (zwd ZC T ad sg lg) sz) :=
  metZ [.ref (ad 0), .int v1, .int v2] sz (by decide) rfl (Nat.le_of_ble_eq_true rfl) (fun p e s m below meth c ls C hw hl => tX11_hen_0 C v1 v2 sg _ _ _ hw hl h)
-- PeckYard$Flock.has(I)Z
def rmX2_has : Room := { frames := 0, cells := 0, slots := 0, locals := 0 }
theorem kX2_has_f27 : Cond.fieldLink RX2 27 "PeckYard$Flock" "size" "I" ∈ wsX2_has := by decide +kernel
theorem kX2_has_iX2 : ∀ w ∈ u_ws RX2 TX2 7, w ∈ wsX2_has := by decide +kernel
def fX2_has  (v1 : Int32) (sg : Sg) : Option (Int32 × Sg) :=
  (if v1 < 0 then some ((0 : Int32), sg) else (if (sg 1 0) ≤ v1 then some ((0 : Int32), sg) else some ((1 : Int32), sg)))
set_option maxHeartbeats 4000000 in
set_option maxRecDepth 100000 in
theorem tX2_has_0 (C : Cx p s m args meth c cX2_has 2 RX2 wsX2_has (some .boolean) D vwCl (tysC T) A true nwL) {ro : Int32} {so : Sg}   : ∀ (v1 : Int32) (sg : Sg), ∀ (H : Heap) (locs : List Loc) (ls : Array Slot), WS ZC D vwCl T ad sg lg A s.heap H locs → lv_has ls 2 [(0, .ref (ad 1)), (1, .int v1)] → fX2_has v1 sg = some (ro, so) → W p l e rmX2_has s m args below meth c H locs 0 0 (MQ below (QI ZC D vwCl T (tysC T) A (fun z => ad = z) ro so lg) args s 0 0 A) (F0 m 0 ls []) := by
  obtain ⟨⟨hx, hb, hml, hown, hts⟩, hr, hlk, hK, hA, hsp⟩ := id C
  intro v1 sg H locs ls hw hl h
  unfold fX2_has at h
  refine lv_iload_n hx hb dX2_has_0 rfl (lv_at hl 1 rfl) ?_
  refine lv_if_lt (tgt := 16) hx hb dX2_has_1 (by decide) (fun c1 => ?_) (fun c1 => ?_)
  · replace h := ite_t h c1
    refine lv_iconst (v := (0 : Int32)) hx hb dX2_has_16 (by decide) ?_
    cases h
    exact r_zret C hw rfl (by decide) (by decide) (by decide) dX2_has_17
  · replace h := ite_f h c1
    refine lv_iload_n hx hb dX2_has_4 rfl (lv_at hl 1 rfl) ?_
    refine lv_aload_n hx hb dX2_has_5 rfl (lv_at hl 0 rfl) ?_
    refine r_getI (ci := 2) (C := RX2) (U := TX2) (N := 7) hx hb hts kX2_has_iX2 hown hK hw 1 (by decide) rfl rfl 0 (by decide) rfl (hts _ kX2_has_f27) (fun _ h9 => h9) dX2_has_6 ?_
    refine lv_icmp_ge (tgt := 16) hx hb dX2_has_9 (by decide) (fun c2 => ?_) (fun c2 => ?_)
    · replace h := ite_t h c2
      refine lv_iconst (v := (0 : Int32)) hx hb dX2_has_16 (by decide) ?_
      cases h
      exact r_zret C hw rfl (by decide) (by decide) (by decide) dX2_has_17
    · replace h := ite_f h c2
      refine lv_iconst (v := (1 : Int32)) hx hb dX2_has_12 (by decide) ?_
      refine lv_goto (tgt := 17) hx hb dX2_has_13 (by decide) ?_
      cases h
      exact r_zret C hw rfl (by decide) (by decide) (by decide) dX2_has_17
theorem mX2_has (l : Launch) (D : va_G) (T : Nat → ClassId) (ad : Nat → Nat) (lg : Lg) (sz : Nat)   (v1 : Int32) (sg : Sg) {ro : Int32} {so : Sg} (h : fX2_has v1 sg = some (ro, so)) : Met l yX2_has wsX2_has rmX2_has (PreZ ZC D vwCl T (tysC T) ad sg lg true nwL [.ref (ad 1), .int v1] sz) (QI ZC D vwCl T (tysC T) (va_A (zwd ZC T ad sg lg) sz) (fun z => ad = z) ro so lg) 0 0 (va_A (zwd ZC T ad sg lg) sz) :=
  metZ [.ref (ad 1), .int v1] sz (by decide) rfl (Nat.le_of_ble_eq_true rfl) (fun p e s m below meth c ls C hw hl => tX2_has_0 C v1 sg _ _ _ hw hl h)
-- PeckYard$Change.save(LPeckYard$Flock;I)V
def rmX0_save : Room := { frames := 1, cells := 0, slots := 0, locals := 60 }
theorem kX0_save_f15 : Cond.fieldLink RX0 15 "PeckYard$Change" "hen" "I" ∈ wsX0_save := by decide +kernel
theorem kX0_save_iX0 : ∀ w ∈ u_ws RX0 TX0 6, w ∈ wsX0_save := by decide +kernel
theorem kX0_save_f19 : Cond.fieldLink RX0 19 "PeckYard$Flock" "asks" "[I" ∈ wsX0_save := by decide +kernel
theorem kX0_save_iX2 : ∀ w ∈ u_ws RX2 TX2 7, w ∈ wsX0_save := by decide +kernel
theorem kX0_save_f24 : Cond.fieldLink RX0 24 "PeckYard$Change" "asks" "I" ∈ wsX0_save := by decide +kernel
theorem kX0_save_f26 : Cond.fieldLink RX0 26 "PeckYard$Flock" "takenIn" "[I" ∈ wsX0_save := by decide +kernel
theorem kX0_save_f29 : Cond.fieldLink RX0 29 "PeckYard$Change" "takenIn" "I" ∈ wsX0_save := by decide +kernel
theorem kX0_save_f31 : Cond.fieldLink RX0 31 "PeckYard$Flock" "width" "[I" ∈ wsX0_save := by decide +kernel
theorem kX0_save_f34 : Cond.fieldLink RX0 34 "PeckYard$Change" "width" "I" ∈ wsX0_save := by decide +kernel
theorem kX0_save_f36 : Cond.fieldLink RX0 36 "PeckYard$Flock" "weights" "[I" ∈ wsX0_save := by decide +kernel
theorem kX0_save_f9 : Cond.fieldLink RX0 9 "PeckYard$Change" "row" "[I" ∈ wsX0_save := by decide +kernel
theorem kX0_save_m39 : Cond.methodLink RX0 39 arraycopyName ∈ wsX0_save := by decide +kernel
theorem kX0_save_n39 : Cond.native arraycopyName ∈ wsX0_save := by decide +kernel
theorem kX0_save_s39 : Cond.static arraycopyName ∈ wsX0_save := by decide +kernel
theorem kX0_save_ini_Sys : Cond.initialized "java/lang/System" ∈ wsX0_save := by decide +kernel
def fX0_save  (jj : Nat) (v2 : Int32) (sg : Sg) : Option (Sg) :=
  lt (up2 sg (47 + jj) 1 v2) (fun sg1 => gin v2 12 (lt (sg1 12 v2.toNatClampNeg) (fun x3 => lt (up2 sg1 (47 + jj) 2 x3) (fun sg4 => gin v2 12 (lt (sg4 13 v2.toNatClampNeg) (fun x6 => lt (up2 sg4 (47 + jj) 3 x6) (fun sg7 => gin v2 12 (lt (sg7 14 v2.toNatClampNeg) (fun x9 => lt (up2 sg7 (47 + jj) 4 x9) (fun sg10 => gcp (v2 * (12 : Int32)) (0 : Int32) (12 : Int32) 144 12 (lt (cp2 sg10 15 (55 + jj) (v2 * (12 : Int32)).toNatClampNeg (0 : Int32).toNatClampNeg (12 : Int32).toNatClampNeg) (fun sg12 => some sg12))))))))))))
set_option maxHeartbeats 4000000 in
set_option maxRecDepth 100000 in
theorem tX0_save_0 (C : Cx p s m args meth c cX0_save 3 RX0 wsX0_save none D vwCl (tysC T) A true nwL) {jj : Nat} (hjj : jj < 8) {so : Sg}   : ∀ (v2 : Int32) (sg : Sg), ∀ (H : Heap) (locs : List Loc) (ls : Array Slot), WS ZC D vwCl T ad sg lg A s.heap H locs → lv_has ls 3 [(0, .ref (ad (47 + jj))), (1, .ref (ad 1)), (2, .int v2)] → fX0_save jj v2 sg = some so → W p l e rmX0_save s m args below meth c H locs 0 0 (MQ below (QV ZC D vwCl T (tysC T) A (fun z => ad = z) so lg) args s 0 0 A) (F0 m 0 ls []) := by
  obtain ⟨⟨hx, hb, hml, hown, hts⟩, hr, hlk, hK, hA, hsp⟩ := id C
  intro v2 sg H locs ls hw hl h
  unfold fX0_save at h
  refine lv_aload_n hx hb dX0_save_0 rfl (lv_at hl 0 rfl) ?_
  refine lv_iload_n hx hb dX0_save_1 rfl (lv_at hl 2 rfl) ?_
  refine r_putI ZC_ok (ci := 0) (C := RX0) (U := TX0) (N := 6) (ty := .int) hx hb hts kX0_save_iX0 tyX0 tyX0_ok nmX0 hown hK hw (47 + jj) (zH_n hjj) (zH_s hjj) rfl 1 (by decide) rfl (hts _ kX0_save_f15) (fun _ h9 => h9) rfl (by decide +kernel) rfl rfl dX0_save_2 (fun H locs sg1 esg1 hw => ?_)
  replace h := lt_get h sg1 esg1
  refine lv_aload_n hx hb dX0_save_5 rfl (lv_at hl 0 rfl) ?_
  refine lv_aload_n hx hb dX0_save_6 rfl (lv_at hl 1 rfl) ?_
  refine r_getR (ci := 2) (C := RX2) (U := TX2) (N := 7) hx hb hts kX0_save_iX2 hown hK hw 1 (by decide) rfl rfl 3 (by decide) 12 rfl (hts _ kX0_save_f19) (fun _ h9 => h9) dX0_save_7 ?_
  refine lv_iload_n hx hb dX0_save_10 rfl (lv_at hl 2 rfl) ?_
  have hi2 := (gin_some h).1
  replace h := (gin_some h).2
  refine r_iald hx hb hK hw 12 0 12 (by decide) rfl rfl rfl hi2 dX0_save_11 ?_
  refine lv_topi (fun x3 ex3 => ?_)
  replace h := lt_get h x3 ex3
  refine r_putI ZC_ok (ci := 0) (C := RX0) (U := TX0) (N := 6) (ty := .int) hx hb hts kX0_save_iX0 tyX0 tyX0_ok nmX0 hown hK hw (47 + jj) (zH_n hjj) (zH_s hjj) rfl 2 (by decide) rfl (hts _ kX0_save_f24) (fun _ h9 => h9) rfl (by decide +kernel) rfl rfl dX0_save_12 (fun H locs sg4 esg4 hw => ?_)
  replace h := lt_get h sg4 esg4
  refine lv_aload_n hx hb dX0_save_15 rfl (lv_at hl 0 rfl) ?_
  refine lv_aload_n hx hb dX0_save_16 rfl (lv_at hl 1 rfl) ?_
  refine r_getR (ci := 2) (C := RX2) (U := TX2) (N := 7) hx hb hts kX0_save_iX2 hown hK hw 1 (by decide) rfl rfl 4 (by decide) 13 rfl (hts _ kX0_save_f26) (fun _ h9 => h9) dX0_save_17 ?_
  refine lv_iload_n hx hb dX0_save_20 rfl (lv_at hl 2 rfl) ?_
  have hi5 := (gin_some h).1
  replace h := (gin_some h).2
  refine r_iald hx hb hK hw 13 0 12 (by decide) rfl rfl rfl hi5 dX0_save_21 ?_
  refine lv_topi (fun x6 ex6 => ?_)
  replace h := lt_get h x6 ex6
  refine r_putI ZC_ok (ci := 0) (C := RX0) (U := TX0) (N := 6) (ty := .int) hx hb hts kX0_save_iX0 tyX0 tyX0_ok nmX0 hown hK hw (47 + jj) (zH_n hjj) (zH_s hjj) rfl 3 (by decide) rfl (hts _ kX0_save_f29) (fun _ h9 => h9) rfl (by decide +kernel) rfl rfl dX0_save_22 (fun H locs sg7 esg7 hw => ?_)
  replace h := lt_get h sg7 esg7
  refine lv_aload_n hx hb dX0_save_25 rfl (lv_at hl 0 rfl) ?_
  refine lv_aload_n hx hb dX0_save_26 rfl (lv_at hl 1 rfl) ?_
  refine r_getR (ci := 2) (C := RX2) (U := TX2) (N := 7) hx hb hts kX0_save_iX2 hown hK hw 1 (by decide) rfl rfl 5 (by decide) 14 rfl (hts _ kX0_save_f31) (fun _ h9 => h9) dX0_save_27 ?_
  refine lv_iload_n hx hb dX0_save_30 rfl (lv_at hl 2 rfl) ?_
  have hi8 := (gin_some h).1
  replace h := (gin_some h).2
  refine r_iald hx hb hK hw 14 0 12 (by decide) rfl rfl rfl hi8 dX0_save_31 ?_
  refine lv_topi (fun x9 ex9 => ?_)
  replace h := lt_get h x9 ex9
  refine r_putI ZC_ok (ci := 0) (C := RX0) (U := TX0) (N := 6) (ty := .int) hx hb hts kX0_save_iX0 tyX0 tyX0_ok nmX0 hown hK hw (47 + jj) (zH_n hjj) (zH_s hjj) rfl 4 (by decide) rfl (hts _ kX0_save_f34) (fun _ h9 => h9) rfl (by decide +kernel) rfl rfl dX0_save_32 (fun H locs sg10 esg10 hw => ?_)
  replace h := lt_get h sg10 esg10
  refine lv_aload_n hx hb dX0_save_35 rfl (lv_at hl 1 rfl) ?_
  refine r_getR (ci := 2) (C := RX2) (U := TX2) (N := 7) hx hb hts kX0_save_iX2 hown hK hw 1 (by decide) rfl rfl 6 (by decide) 15 rfl (hts _ kX0_save_f36) (fun _ h9 => h9) dX0_save_36 ?_
  refine lv_iload_n hx hb dX0_save_39 rfl (lv_at hl 2 rfl) ?_
  refine lv_bipush (v := (12 : Int32)) hx hb dX0_save_40 (by decide) ?_
  refine lv_imul hx hb dX0_save_42 ?_
  refine lv_aload_n hx hb dX0_save_43 rfl (lv_at hl 0 rfl) ?_
  refine r_getR (ci := 0) (C := RX0) (U := TX0) (N := 6) hx hb hts kX0_save_iX0 hown hK hw (47 + jj) (zH_n hjj) (zH_s hjj) rfl 5 (by decide) (55 + jj) rfl (hts _ kX0_save_f9) (fun _ h9 => h9) dX0_save_44 ?_
  refine lv_iconst (v := (0 : Int32)) hx hb dX0_save_47 (by decide) ?_
  refine lv_bipush (v := (12 : Int32)) hx hb dX0_save_48 (by decide) ?_
  have hc11 := (gcp_some h).1
  replace h := (gcp_some h).2
  refine r_copy ZC_okC hx hb (hml.trans hl.1.symm) hown (hts _ kX0_save_m39) (hts _ kX0_save_n39) (hts _ kX0_save_s39) (hts _ kX0_save_ini_Sys) hK hw 15 (55 + jj) 0 (by decide) (zR_n hjj) rfl (zR_s hjj) rfl rfl (zR_l _ hjj) hc11 (Nat.le_of_ble_eq_true rfl) (Nat.le_of_ble_eq_true rfl) dX0_save_50 (fun H locs sg12 esg12 hw => ?_)
  replace h := lt_get h sg12 esg12
  cases h
  exact r_vret C hw rfl (by decide) (by decide) dX0_save_53
theorem mX0_save (l : Launch) (D : va_G) (T : Nat → ClassId) (ad : Nat → Nat) (lg : Lg) (sz : Nat) {jj : Nat} (hjj : jj < 8) (v2 : Int32) (sg : Sg) {so : Sg} (h : fX0_save jj v2 sg = some so) : Met l yX0_save wsX0_save rmX0_save (PreZ ZC D vwCl T (tysC T) ad sg lg true nwL [.ref (ad (47 + jj)), .ref (ad 1), .int v2] sz) (QV ZC D vwCl T (tysC T) (va_A (zwd ZC T ad sg lg) sz) (fun z => ad = z) so lg) 0 0 (va_A (zwd ZC T ad sg lg) sz) :=
  metZ [.ref (ad (47 + jj)), .ref (ad 1), .int v2] sz (by decide) rfl (Nat.le_of_ble_eq_true rfl) (fun p e s m below meth c ls C hw hl => tX0_save_0 C hjj v2 sg _ _ _ hw hl h)
-- PeckYard$Changes.keepHen(LPeckYard$Flock;I)V
def rmX1_keepHen : Room := { frames := 2, cells := 0, slots := 0, locals := 82 }
theorem kX1_keepHen_f11 : Cond.fieldLink RX1 11 "PeckYard$Changes" "row" "[LPeckYard$Change;" ∈ wsX1_keepHen := by decide +kernel
theorem kX1_keepHen_iX1 : ∀ w ∈ u_ws RX1 TX1 3, w ∈ wsX1_keepHen := by decide +kernel
theorem kX1_keepHen_f18 : Cond.fieldLink RX1 18 "PeckYard$Changes" "next" "I" ∈ wsX1_keepHen := by decide +kernel
theorem kX1_keepHen_f22 : Cond.fieldLink RX1 22 "PeckYard$Change" "isNewHen" "Z" ∈ wsX1_keepHen := by decide +kernel
theorem kX1_keepHen_iX0 : ∀ w ∈ u_ws RX0 TX0 6, w ∈ wsX1_keepHen := by decide +kernel
def fX1_keepHen  (v2 : Int32) (sg : Sg) : Option (Sg) :=
  lt (sg 2 1) (fun x1 => gin x1 8 (lt (up2 sg (47 + x1.toNatClampNeg) 0 (0 : Int32)) (fun sg3 => lt (sg3 2 1) (fun x4 => gin x4 8 (bnd1 (fX0_save x4.toNatClampNeg v2 sg3) (fun sg6 => bnd1 (fX1_step sg6) (fun sg8 => some sg8)))))))
set_option maxHeartbeats 4000000 in
set_option maxRecDepth 100000 in
theorem tX1_keepHen_0 (C : Cx p s m args meth c cX1_keepHen 3 RX1 wsX1_keepHen none D vwCl (tysC T) A true nwL) {so : Sg}   : ∀ (v2 : Int32) (sg : Sg), ∀ (H : Heap) (locs : List Loc) (ls : Array Slot), WS ZC D vwCl T ad sg lg A s.heap H locs → lv_has ls 3 [(0, .ref (ad 2)), (1, .ref (ad 1)), (2, .int v2)] → fX1_keepHen v2 sg = some so → W p l e rmX1_keepHen s m args below meth c H locs 0 0 (MQ below (QV ZC D vwCl T (tysC T) A (fun z => ad = z) so lg) args s 0 0 A) (F0 m 0 ls []) := by
  obtain ⟨⟨hx, hb, hml, hown, hts⟩, hr, hlk, hK, hA, hsp⟩ := id C
  intro v2 sg H locs ls hw hl h
  unfold fX1_keepHen at h
  refine lv_aload_n hx hb dX1_keepHen_0 rfl (lv_at hl 0 rfl) ?_
  refine r_getR (ci := 1) (C := RX1) (U := TX1) (N := 3) hx hb hts kX1_keepHen_iX1 hown hK hw 2 (by decide) rfl rfl 2 (by decide) 16 rfl (hts _ kX1_keepHen_f11) (fun _ h9 => h9) dX1_keepHen_1 ?_
  refine lv_aload_n hx hb dX1_keepHen_4 rfl (lv_at hl 0 rfl) ?_
  refine r_getI (ci := 1) (C := RX1) (U := TX1) (N := 3) hx hb hts kX1_keepHen_iX1 hown hK hw 2 (by decide) rfl rfl 1 (by decide) rfl (hts _ kX1_keepHen_f18) (fun _ h9 => h9) dX1_keepHen_5 ?_
  refine lv_topi (fun x1 ex1 => ?_)
  replace h := lt_get h x1 ex1
  have hi2 := (gin_some h).1
  replace h := (gin_some h).2
  refine r_qald hx hb hK hw 16 2 8 (by decide) rfl rfl rfl hi2 dX1_keepHen_8 rfl ?_
  refine lv_iconst (v := (0 : Int32)) hx hb dX1_keepHen_9 (by decide) ?_
  refine r_putI ZC_ok (ci := 0) (C := RX0) (U := TX0) (N := 6) (ty := .boolean) hx hb hts kX1_keepHen_iX0 tyX0 tyX0_ok nmX0 hown hK hw (47 + x1.toNatClampNeg) (zH_n (vin_lt hi2)) (zH_s (vin_lt hi2)) rfl 0 (by decide) rfl (hts _ kX1_keepHen_f22) (fun _ h9 => h9) rfl (by decide +kernel) (by decide) rfl dX1_keepHen_10 (fun H locs sg3 esg3 hw => ?_)
  replace h := lt_get h sg3 esg3
  refine lv_aload_n hx hb dX1_keepHen_13 rfl (lv_at hl 0 rfl) ?_
  refine r_getR (ci := 1) (C := RX1) (U := TX1) (N := 3) hx hb hts kX1_keepHen_iX1 hown hK hw 2 (by decide) rfl rfl 2 (by decide) 16 rfl (hts _ kX1_keepHen_f11) (fun _ h9 => h9) dX1_keepHen_14 ?_
  refine lv_aload_n hx hb dX1_keepHen_17 rfl (lv_at hl 0 rfl) ?_
  refine r_getI (ci := 1) (C := RX1) (U := TX1) (N := 3) hx hb hts kX1_keepHen_iX1 hown hK hw 2 (by decide) rfl rfl 1 (by decide) rfl (hts _ kX1_keepHen_f18) (fun _ h9 => h9) dX1_keepHen_18 ?_
  refine lv_topi (fun x4 ex4 => ?_)
  replace h := lt_get h x4 ex4
  have hi5 := (gin_some h).1
  replace h := (gin_some h).2
  refine r_qald hx hb hK hw 16 2 8 (by decide) rfl rfl rfl hi5 dX1_keepHen_21 rfl ?_
  refine lv_aload_n hx hb dX1_keepHen_22 rfl (lv_at hl 1 rfl) ?_
  refine lv_iload_n hx hb dX1_keepHen_23 rfl (lv_at hl 2 rfl) ?_
  obtain ⟨sg6, hq7, h2⟩ := bnd1_some h
  replace h := h2
  clear h2
  refine r_cVv (As := [.ref (ad 1), .int v2]) (rest := []) C hw (47 + x4.toNatClampNeg) (zH_n (vin_lt hi5)) (ci := 0) (zH_s (vin_lt hi5)) rfl (mX0_save l D T ad lg H.size (vin_lt hi5) v2 sg3 hq7) (cwV 2 hts gX1_keepHen_X0_save rfl rfl rfl (by decide +kernel) ⟨Nat.le_of_ble_eq_true rfl, Nat.le_of_ble_eq_true rfl⟩) rfl hl.1 rfl (Nat.le_of_ble_eq_true rfl) dX1_keepHen_24 ⟨Nat.le_of_ble_eq_true rfl, Nat.le_of_ble_eq_true rfl⟩ (fun ad' H locs hp hw => ?_)
  subst hp
  refine W.widen (k := 0) (n := 0) (by decide) (by decide) ?_
  refine lv_aload_n hx hb dX1_keepHen_27 rfl (lv_at hl 0 rfl) ?_
  refine lv_aload_n hx hb dX1_keepHen_28 rfl (lv_at hl 1 rfl) ?_
  obtain ⟨sg8, hq9, h2⟩ := bnd1_some h
  replace h := h2
  clear h2
  refine r_cVv (As := [.ref (ad 1)]) (rest := []) C hw 2 (by decide) (ci := 1) rfl rfl (mX1_step l D T ad lg H.size sg6 hq9) (cwV 1 hts gX1_keepHen_X1_step rfl rfl rfl (by decide +kernel) ⟨Nat.le_of_ble_eq_true rfl, Nat.le_of_ble_eq_true rfl⟩) rfl hl.1 rfl (Nat.le_of_ble_eq_true rfl) dX1_keepHen_29 ⟨Nat.le_of_ble_eq_true rfl, Nat.le_of_ble_eq_true rfl⟩ (fun ad' H locs hp hw => ?_)
  subst hp
  refine W.widen (k := 0) (n := 0) (by decide) (by decide) ?_
  cases h
  exact r_vret C hw rfl (by decide) (by decide) dX1_keepHen_32
theorem mX1_keepHen (l : Launch) (D : va_G) (T : Nat → ClassId) (ad : Nat → Nat) (lg : Lg) (sz : Nat)   (v2 : Int32) (sg : Sg) {so : Sg} (h : fX1_keepHen v2 sg = some so) : Met l yX1_keepHen wsX1_keepHen rmX1_keepHen (PreZ ZC D vwCl T (tysC T) ad sg lg true nwL [.ref (ad 2), .ref (ad 1), .int v2] sz) (QV ZC D vwCl T (tysC T) (va_A (zwd ZC T ad sg lg) sz) (fun z => ad = z) so lg) 0 0 (va_A (zwd ZC T ad sg lg) sz) :=
  metZ [.ref (ad 2), .ref (ad 1), .int v2] sz (by decide) rfl (Nat.le_of_ble_eq_true rfl) (fun p e s m below meth c ls C hw hl => tX1_keepHen_0 C v2 sg _ _ _ hw hl h)
-- PeckYard.ask(II)J
def rmX11_ask : Room := { frames := 3, cells := 0, slots := 0, locals := 104 }
theorem kX11_ask_f10 : Cond.fieldLink RX11 10 "PeckYard" "flock" "LPeckYard$Flock;" ∈ wsX11_ask := by decide +kernel
theorem kX11_ask_iX11 : ∀ w ∈ u_ws RX11 TX11 9, w ∈ wsX11_ask := by decide +kernel
theorem kX11_ask_c88 : Cond.constantLong RX11 88 (-2000000001) ∈ wsX11_ask := by decide +kernel
theorem kX11_ask_f19 : Cond.fieldLink RX11 19 "PeckYard" "changes" "LPeckYard$Changes;" ∈ wsX11_ask := by decide +kernel
theorem kX11_ask_f106 : Cond.fieldLink RX11 106 "PeckYard$Flock" "asks" "[I" ∈ wsX11_ask := by decide +kernel
theorem kX11_ask_iX2 : ∀ w ∈ u_ws RX2 TX2 7, w ∈ wsX11_ask := by decide +kernel
def fX11_ask  (v1 : Int32) (v2 : Int32) (sg : Sg) : Option (Int64 × Sg) :=
  bnd2 (fX2_has v1 sg) (fun y1 sg2 => (if y1 = 0 then some ((-2000000001 : Int64), sg2) else bnd2 (fX11_mayAskFor v1 v2 sg2) (fun y5 sg6 => (if y5 = 0 then some ((-2000000001 : Int64), sg6) else bnd1 (fX1_keepHen v1 sg6) (fun sg9 => gin v1 12 (lt ((sg9 12 v1.toNatClampNeg).toInt64) (fun x12 => gin v1 12 (lt (up2 sg9 12 v1.toNatClampNeg v2) (fun sg14 => some (x12, sg14))))))))))
set_option maxHeartbeats 4000000 in
set_option maxRecDepth 100000 in
theorem tX11_ask_0 (C : Cx p s m args meth c cX11_ask 5 RX11 wsX11_ask (some .long) D vwCl (tysC T) A true nwL) {ro : Int64} {so : Sg}   : ∀ (v1 : Int32) (v2 : Int32) (sg : Sg), ∀ (H : Heap) (locs : List Loc) (ls : Array Slot), WS ZC D vwCl T ad sg lg A s.heap H locs → lv_has ls 5 [(0, .ref (ad 0)), (1, .int v1), (2, .int v2)] → fX11_ask v1 v2 sg = some (ro, so) → W p l e rmX11_ask s m args below meth c H locs 0 0 (MQ below (QL ZC D vwCl T (tysC T) A (fun z => ad = z) ro so lg) args s 0 0 A) (F0 m 0 ls []) := by
  obtain ⟨⟨hx, hb, hml, hown, hts⟩, hr, hlk, hK, hA, hsp⟩ := id C
  intro v1 v2 sg H locs ls hw hl h
  unfold fX11_ask at h
  refine lv_aload_n hx hb dX11_ask_0 rfl (lv_at hl 0 rfl) ?_
  refine r_getR (ci := 11) (C := RX11) (U := TX11) (N := 9) hx hb hts kX11_ask_iX11 hown hK hw 0 (by decide) rfl rfl 0 (by decide) 1 rfl (hts _ kX11_ask_f10) (fun _ h9 => h9) dX11_ask_1 ?_
  refine lv_iload_n hx hb dX11_ask_4 rfl (lv_at hl 1 rfl) ?_
  obtain ⟨y1, sg2, hq3, h2⟩ := bnd2_some h
  replace h := h2
  clear h2
  refine r_cVi (As := [.int v1]) (rest := []) C hw 1 (by decide) (ci := 2) rfl rfl (mX2_has l D T ad lg H.size v1 sg hq3) (cwV 1 hts gX11_ask_X2_has rfl rfl rfl (by decide +kernel) ⟨Nat.le_of_ble_eq_true rfl, Nat.le_of_ble_eq_true rfl⟩) rfl hl.1 rfl (Nat.le_of_ble_eq_true rfl) dX11_ask_5 ⟨Nat.le_of_ble_eq_true rfl, Nat.le_of_ble_eq_true rfl⟩ (fun ad' H locs hp hw => ?_)
  subst hp
  refine W.widen (k := 0) (n := 0) (by decide) (by decide) ?_
  refine lv_if_eq (tgt := 19) hx hb dX11_ask_8 (by decide) (fun c4 => ?_) (fun c4 => ?_)
  · replace h := ite_t h c4
    refine lv_ldc2 hx hb hown (hts _ kX11_ask_c88) dX11_ask_19 ?_
    cases h
    exact r_lret C hw rfl (by decide) (by decide) dX11_ask_22
  · replace h := ite_f h c4
    refine lv_iload_n hx hb dX11_ask_11 rfl (lv_at hl 1 rfl) ?_
    refine lv_iload_n hx hb dX11_ask_12 rfl (lv_at hl 2 rfl) ?_
    obtain ⟨y5, sg6, hq7, h2⟩ := bnd2_some h
    replace h := h2
    clear h2
    refine r_cSi (As := [.int v1, .int v2]) (rest := []) C hw (mX11_mayAskFor l D T ad lg H.size v1 v2 sg2 hq7) (va_cwS 2 hts gX11_ask_X11_mayAskFor rfl rfl rfl (by decide +kernel) ⟨Nat.le_of_ble_eq_true rfl, Nat.le_of_ble_eq_true rfl⟩) rfl hl.1 rfl (Nat.le_of_ble_eq_true rfl) dX11_ask_13 ⟨Nat.le_of_ble_eq_true rfl, Nat.le_of_ble_eq_true rfl⟩ (fun ad' H locs hp hw => ?_)
    subst hp
    refine W.widen (k := 0) (n := 0) (by decide) (by decide) ?_
    refine lv_if_ne (tgt := 23) hx hb dX11_ask_16 (by decide) (fun c8 => ?_) (fun c8 => ?_)
    · replace h := ite_f h c8
      refine lv_aload_n hx hb dX11_ask_23 rfl (lv_at hl 0 rfl) ?_
      refine r_getR (ci := 11) (C := RX11) (U := TX11) (N := 9) hx hb hts kX11_ask_iX11 hown hK hw 0 (by decide) rfl rfl 1 (by decide) 2 rfl (hts _ kX11_ask_f19) (fun _ h9 => h9) dX11_ask_24 ?_
      refine lv_aload_n hx hb dX11_ask_27 rfl (lv_at hl 0 rfl) ?_
      refine r_getR (ci := 11) (C := RX11) (U := TX11) (N := 9) hx hb hts kX11_ask_iX11 hown hK hw 0 (by decide) rfl rfl 0 (by decide) 1 rfl (hts _ kX11_ask_f10) (fun _ h9 => h9) dX11_ask_28 ?_
      refine lv_iload_n hx hb dX11_ask_31 rfl (lv_at hl 1 rfl) ?_
      obtain ⟨sg9, hq10, h2⟩ := bnd1_some h
      replace h := h2
      clear h2
      refine r_cVv (As := [.ref (ad 1), .int v1]) (rest := []) C hw 2 (by decide) (ci := 1) rfl rfl (mX1_keepHen l D T ad lg H.size v1 sg6 hq10) (cwV 2 hts gX11_ask_X1_keepHen rfl rfl rfl (by decide +kernel) ⟨Nat.le_of_ble_eq_true rfl, Nat.le_of_ble_eq_true rfl⟩) rfl hl.1 rfl (Nat.le_of_ble_eq_true rfl) dX11_ask_32 ⟨Nat.le_of_ble_eq_true rfl, Nat.le_of_ble_eq_true rfl⟩ (fun ad' H locs hp hw => ?_)
      subst hp
      refine W.widen (k := 0) (n := 0) (by decide) (by decide) ?_
      refine lv_aload_n hx hb dX11_ask_35 rfl (lv_at hl 0 rfl) ?_
      refine r_getR (ci := 11) (C := RX11) (U := TX11) (N := 9) hx hb hts kX11_ask_iX11 hown hK hw 0 (by decide) rfl rfl 0 (by decide) 1 rfl (hts _ kX11_ask_f10) (fun _ h9 => h9) dX11_ask_36 ?_
      refine r_getR (ci := 2) (C := RX2) (U := TX2) (N := 7) hx hb hts kX11_ask_iX2 hown hK hw 1 (by decide) rfl rfl 3 (by decide) 12 rfl (hts _ kX11_ask_f106) (fun _ h9 => h9) dX11_ask_39 ?_
      refine lv_iload_n hx hb dX11_ask_42 rfl (lv_at hl 1 rfl) ?_
      have hi11 := (gin_some h).1
      replace h := (gin_some h).2
      refine r_iald hx hb hK hw 12 0 12 (by decide) rfl rfl rfl hi11 dX11_ask_43 ?_
      refine lv_i2l (v := (sg9 12 v1.toNatClampNeg).toInt64) hx hb dX11_ask_44 rfl ?_
      refine lv_topl (fun x12 ex12 => ?_)
      replace h := lt_get h x12 ex12
      refine lv_lstore_n (lv' := [(3, .long x12), (0, .ref (ad 0)), (1, .int v1), (2, .int v2)]) hx hb dX11_ask_45 rfl hl (by decide) rfl (fun ls hl => ?_)
      refine lv_aload_n hx hb dX11_ask_46 rfl (lv_at hl 1 rfl) ?_
      refine r_getR (ci := 11) (C := RX11) (U := TX11) (N := 9) hx hb hts kX11_ask_iX11 hown hK hw 0 (by decide) rfl rfl 0 (by decide) 1 rfl (hts _ kX11_ask_f10) (fun _ h9 => h9) dX11_ask_47 ?_
      refine r_getR (ci := 2) (C := RX2) (U := TX2) (N := 7) hx hb hts kX11_ask_iX2 hown hK hw 1 (by decide) rfl rfl 3 (by decide) 12 rfl (hts _ kX11_ask_f106) (fun _ h9 => h9) dX11_ask_50 ?_
      refine lv_iload_n hx hb dX11_ask_53 rfl (lv_at hl 2 rfl) ?_
      refine lv_iload_n hx hb dX11_ask_54 rfl (lv_at hl 3 rfl) ?_
      have hi13 := (gin_some h).1
      replace h := (gin_some h).2
      refine r_iast ZC_ok hx hb hK hw 12 0 12 (by decide) rfl rfl rfl hi13 dX11_ask_55 (fun H locs sg14 esg14 hw => ?_)
      replace h := lt_get h sg14 esg14
      refine lv_lload_n hx hb dX11_ask_56 rfl (lv_at hl 0 rfl) ?_
      cases h
      exact r_lret C hw rfl (by decide) (by decide) dX11_ask_57
    · replace h := ite_t h c8
      refine lv_ldc2 hx hb hown (hts _ kX11_ask_c88) dX11_ask_19 ?_
      cases h
      exact r_lret C hw rfl (by decide) (by decide) dX11_ask_22
theorem mX11_ask (l : Launch) (D : va_G) (T : Nat → ClassId) (ad : Nat → Nat) (lg : Lg) (sz : Nat)   (v1 : Int32) (v2 : Int32) (sg : Sg) {ro : Int64} {so : Sg} (h : fX11_ask v1 v2 sg = some (ro, so)) : Met l yX11_ask wsX11_ask rmX11_ask (PreZ ZC D vwCl T (tysC T) ad sg lg true nwL [.ref (ad 0), .int v1, .int v2] sz) (QL ZC D vwCl T (tysC T) (va_A (zwd ZC T ad sg lg) sz) (fun z => ad = z) ro so lg) 0 0 (va_A (zwd ZC T ad sg lg) sz) :=
  metZ [.ref (ad 0), .int v1, .int v2] sz (by decide) rfl (Nat.le_of_ble_eq_true rfl) (fun p e s m below meth c ls C hw hl => tX11_ask_0 C v1 v2 sg _ _ _ hw hl h)
end ZC
