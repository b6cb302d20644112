section ZC
variable {p : Program} {l : Launch} {e : Env} {s : State} {m : MethodId} {args : Array Value} {below : List Frame} {meth : Method} {c : Code} {D : va_G} {T : Nat → ClassId} {A : Nat → Prop} {ad a : Nat → Nat} {lg : Lg}
-- PeckYard.pecks(II)J
def rmX11_pecks : Room := { frames := 1, cells := 0, slots := 0, locals := 21 }
theorem kX11_pecks_f10 : Cond.fieldLink RX11 10 "PeckYard" "flock" "LPeckYard$Flock;" ∈ wsX11_pecks := by decide +kernel
theorem kX11_pecks_iX11 : ∀ w ∈ u_ws RX11 TX11 9, w ∈ wsX11_pecks := by decide +kernel
theorem kX11_pecks_c88 : Cond.constantLong RX11 88 (-2000000001) ∈ wsX11_pecks := by decide +kernel
theorem kX11_pecks_f134 : Cond.fieldLink RX11 134 "PeckYard$Flock" "weights" "[I" ∈ wsX11_pecks := by decide +kernel
theorem kX11_pecks_iX2 : ∀ w ∈ u_ws RX2 TX2 7, w ∈ wsX11_pecks := by decide +kernel
def fX11_pecks  (v1 : Int32) (v2 : Int32) (sg : Sg) : Option (Int64 × Sg) :=
  bnd2 (fX2_has v1 sg) (fun y1 sg2 => (if y1 = 0 then some ((-2000000001 : Int64), sg2) else bnd2 (fX11_isOther v1 v2 sg2) (fun y5 sg6 => (if y5 = 0 then some ((-2000000001 : Int64), sg6) else lt ((v1 * (12 : Int32)) + v2) (fun x9 => gin x9 144 (some ((sg6 15 x9.toNatClampNeg).toInt64, sg6)))))))
set_option maxHeartbeats 4000000 in
set_option maxRecDepth 100000 in
theorem tX11_pecks_0 (C : Cx p s m args meth c cX11_pecks 3 RX11 wsX11_pecks (some .long) D vwCl (tysC T) A true nwL) {ro : Int64} {so : Sg}   : ∀ (v1 : Int32) (v2 : Int32) (sg : Sg), ∀ (H : Heap) (locs : List Loc) (ls : Array Slot), WS ZC D vwCl T ad sg lg A s.heap H locs → lv_has ls 3 [(0, .ref (ad 0)), (1, .int v1), (2, .int v2)] → fX11_pecks v1 v2 sg = some (ro, so) → W p l e rmX11_pecks s m args below meth c H locs 0 0 (MQ below (QL ZC D vwCl T (tysC T) A (fun z => ad = z) ro so lg) args s 0 0 A) (F0 m 0 ls []) := by
  obtain ⟨⟨hx, hb, hml, hown, hts⟩, hr, hlk, hK, hA, hsp⟩ := id C
  intro v1 v2 sg H locs ls hw hl h
  unfold fX11_pecks at h
  refine lv_aload_n hx hb dX11_pecks_0 rfl (lv_at hl 0 rfl) ?_
  refine r_getR (ci := 11) (C := RX11) (U := TX11) (N := 9) hx hb hts kX11_pecks_iX11 hown hK hw 0 (by decide) rfl rfl 0 (by decide) 1 rfl (hts _ kX11_pecks_f10) (fun _ h9 => h9) dX11_pecks_1 ?_
  refine lv_iload_n hx hb dX11_pecks_4 rfl (lv_at hl 1 rfl) ?_
  obtain ⟨y1, sg2, hq3, h2⟩ := bnd2_some h
  replace h := h2
  clear h2
  refine r_cVi (As := [.int v1]) (rest := []) C hw 1 (by decide) (ci := 2) rfl rfl (mX2_has l D T ad lg H.size v1 sg hq3) (cwV 1 hts gX11_pecks_X2_has rfl rfl rfl (by decide +kernel) ⟨Nat.le_of_ble_eq_true rfl, Nat.le_of_ble_eq_true rfl⟩) rfl hl.1 rfl (Nat.le_of_ble_eq_true rfl) dX11_pecks_5 ⟨Nat.le_of_ble_eq_true rfl, Nat.le_of_ble_eq_true rfl⟩ (fun ad' H locs hp hw => ?_)
  subst hp
  refine W.widen (k := 0) (n := 0) (by decide) (by decide) ?_
  refine lv_if_eq (tgt := 19) hx hb dX11_pecks_8 (by decide) (fun c4 => ?_) (fun c4 => ?_)
  · replace h := ite_t h c4
    refine lv_ldc2 hx hb hown (hts _ kX11_pecks_c88) dX11_pecks_19 ?_
    cases h
    exact r_lret C hw rfl (by decide) (by decide) dX11_pecks_22
  · replace h := ite_f h c4
    refine lv_iload_n hx hb dX11_pecks_11 rfl (lv_at hl 1 rfl) ?_
    refine lv_iload_n hx hb dX11_pecks_12 rfl (lv_at hl 2 rfl) ?_
    obtain ⟨y5, sg6, hq7, h2⟩ := bnd2_some h
    replace h := h2
    clear h2
    refine r_cSi (As := [.int v1, .int v2]) (rest := []) C hw (mX11_isOther l D T ad lg H.size v1 v2 sg2 hq7) (va_cwS 2 hts gX11_pecks_X11_isOther rfl rfl rfl (by decide +kernel) ⟨Nat.le_of_ble_eq_true rfl, Nat.le_of_ble_eq_true rfl⟩) rfl hl.1 rfl (Nat.le_of_ble_eq_true rfl) dX11_pecks_13 ⟨Nat.le_of_ble_eq_true rfl, Nat.le_of_ble_eq_true rfl⟩ (fun ad' H locs hp hw => ?_)
    subst hp
    refine W.widen (k := 0) (n := 0) (by decide) (by decide) ?_
    refine lv_if_ne (tgt := 23) hx hb dX11_pecks_16 (by decide) (fun c8 => ?_) (fun c8 => ?_)
    · replace h := ite_f h c8
      refine lv_aload_n hx hb dX11_pecks_23 rfl (lv_at hl 0 rfl) ?_
      refine r_getR (ci := 11) (C := RX11) (U := TX11) (N := 9) hx hb hts kX11_pecks_iX11 hown hK hw 0 (by decide) rfl rfl 0 (by decide) 1 rfl (hts _ kX11_pecks_f10) (fun _ h9 => h9) dX11_pecks_24 ?_
      refine r_getR (ci := 2) (C := RX2) (U := TX2) (N := 7) hx hb hts kX11_pecks_iX2 hown hK hw 1 (by decide) rfl rfl 6 (by decide) 15 rfl (hts _ kX11_pecks_f134) (fun _ h9 => h9) dX11_pecks_27 ?_
      refine lv_iload_n hx hb dX11_pecks_30 rfl (lv_at hl 1 rfl) ?_
      refine lv_bipush (v := (12 : Int32)) hx hb dX11_pecks_31 (by decide) ?_
      refine lv_imul hx hb dX11_pecks_33 ?_
      refine lv_iload_n hx hb dX11_pecks_34 rfl (lv_at hl 2 rfl) ?_
      refine lv_iadd hx hb dX11_pecks_35 ?_
      refine lv_topi (fun x9 ex9 => ?_)
      replace h := lt_get h x9 ex9
      have hi10 := (gin_some h).1
      replace h := (gin_some h).2
      refine r_iald hx hb hK hw 15 0 144 (by decide) rfl rfl rfl hi10 dX11_pecks_36 ?_
      refine lv_i2l (v := (sg6 15 x9.toNatClampNeg).toInt64) hx hb dX11_pecks_37 rfl ?_
      cases h
      exact r_lret C hw rfl (by decide) (by decide) dX11_pecks_38
    · replace h := ite_t h c8
      refine lv_ldc2 hx hb hown (hts _ kX11_pecks_c88) dX11_pecks_19 ?_
      cases h
      exact r_lret C hw rfl (by decide) (by decide) dX11_pecks_22
theorem mX11_pecks (l : Launch) (D : va_G) (T : Nat → ClassId) (ad : Nat → Nat) (lg : Lg) (sz : Nat)   (v1 : Int32) (v2 : Int32) (sg : Sg) {ro : Int64} {so : Sg} (h : fX11_pecks v1 v2 sg = some (ro, so)) : Met l yX11_pecks wsX11_pecks rmX11_pecks (PreZ ZC D vwCl T (tysC T) ad sg lg true nwL [.ref (ad 0), .int v1, .int v2] sz) (QL ZC D vwCl T (tysC T) (va_A (zwd ZC T ad sg lg) sz) (fun z => ad = z) ro so lg) 0 0 (va_A (zwd ZC T ad sg lg) sz) :=
  metZ [.ref (ad 0), .int v1, .int v2] sz (by decide) rfl (Nat.le_of_ble_eq_true rfl) (fun p e s m below meth c ls C hw hl => tX11_pecks_0 C v1 v2 sg _ _ _ hw hl h)
-- PeckYard$Change.restore(LPeckYard$Flock;)V
def rmX0_restore : Room := { frames := 1, cells := 0, slots := 0, locals := 60 }
theorem kX0_restore_f19 : Cond.fieldLink RX0 19 "PeckYard$Flock" "asks" "[I" ∈ wsX0_restore := by decide +kernel
theorem kX0_restore_iX2 : ∀ w ∈ u_ws RX2 TX2 7, w ∈ wsX0_restore := by decide +kernel
theorem kX0_restore_f15 : Cond.fieldLink RX0 15 "PeckYard$Change" "hen" "I" ∈ wsX0_restore := by decide +kernel
theorem kX0_restore_iX0 : ∀ w ∈ u_ws RX0 TX0 6, w ∈ wsX0_restore := by decide +kernel
theorem kX0_restore_f24 : Cond.fieldLink RX0 24 "PeckYard$Change" "asks" "I" ∈ wsX0_restore := by decide +kernel
theorem kX0_restore_f26 : Cond.fieldLink RX0 26 "PeckYard$Flock" "takenIn" "[I" ∈ wsX0_restore := by decide +kernel
theorem kX0_restore_f29 : Cond.fieldLink RX0 29 "PeckYard$Change" "takenIn" "I" ∈ wsX0_restore := by decide +kernel
theorem kX0_restore_f31 : Cond.fieldLink RX0 31 "PeckYard$Flock" "width" "[I" ∈ wsX0_restore := by decide +kernel
theorem kX0_restore_f34 : Cond.fieldLink RX0 34 "PeckYard$Change" "width" "I" ∈ wsX0_restore := by decide +kernel
theorem kX0_restore_f9 : Cond.fieldLink RX0 9 "PeckYard$Change" "row" "[I" ∈ wsX0_restore := by decide +kernel
theorem kX0_restore_f36 : Cond.fieldLink RX0 36 "PeckYard$Flock" "weights" "[I" ∈ wsX0_restore := by decide +kernel
theorem kX0_restore_m39 : Cond.methodLink RX0 39 arraycopyName ∈ wsX0_restore := by decide +kernel
theorem kX0_restore_n39 : Cond.native arraycopyName ∈ wsX0_restore := by decide +kernel
theorem kX0_restore_s39 : Cond.static arraycopyName ∈ wsX0_restore := by decide +kernel
theorem kX0_restore_ini_Sys : Cond.initialized "java/lang/System" ∈ wsX0_restore := by decide +kernel
def fX0_restore  (jj : Nat) (sg : Sg) : Option (Sg) :=
  lt (sg (47 + jj) 2) (fun x1 => gin (sg (47 + jj) 1) 12 (lt (up2 sg 12 (sg (47 + jj) 1).toNatClampNeg x1) (fun sg3 => lt (sg3 (47 + jj) 3) (fun x4 => gin (sg3 (47 + jj) 1) 12 (lt (up2 sg3 13 (sg3 (47 + jj) 1).toNatClampNeg x4) (fun sg6 => lt (sg6 (47 + jj) 4) (fun x7 => gin (sg6 (47 + jj) 1) 12 (lt (up2 sg6 14 (sg6 (47 + jj) 1).toNatClampNeg x7) (fun sg9 => gcp (0 : Int32) ((sg9 (47 + jj) 1) * (12 : Int32)) (12 : Int32) 12 144 (lt (cp2 sg9 (55 + jj) 15 (0 : Int32).toNatClampNeg ((sg9 (47 + jj) 1) * (12 : Int32)).toNatClampNeg (12 : Int32).toNatClampNeg) (fun sg11 => some sg11)))))))))))
set_option maxHeartbeats 4000000 in
set_option maxRecDepth 100000 in
theorem tX0_restore_0 (C : Cx p s m args meth c cX0_restore 2 RX0 wsX0_restore none D vwCl (tysC T) A true nwL) {jj : Nat} (hjj : jj < 8) {so : Sg}   : ∀ (sg : Sg), ∀ (H : Heap) (locs : List Loc) (ls : Array Slot), WS ZC D vwCl T ad sg lg A s.heap H locs → lv_has ls 2 [(0, .ref (ad (47 + jj))), (1, .ref (ad 1))] → fX0_restore jj sg = some so → W p l e rmX0_restore s m args below meth c H locs 0 0 (MQ below (QV ZC D vwCl T (tysC T) A (fun z => ad = z) so lg) args s 0 0 A) (F0 m 0 ls []) := by
  obtain ⟨⟨hx, hb, hml, hown, hts⟩, hr, hlk, hK, hA, hsp⟩ := id C
  intro sg H locs ls hw hl h
  unfold fX0_restore at h
  refine lv_aload_n hx hb dX0_restore_0 rfl (lv_at hl 1 rfl) ?_
  refine r_getR (ci := 2) (C := RX2) (U := TX2) (N := 7) hx hb hts kX0_restore_iX2 hown hK hw 1 (by decide) rfl rfl 3 (by decide) 12 rfl (hts _ kX0_restore_f19) (fun _ h9 => h9) dX0_restore_1 ?_
  refine lv_aload_n hx hb dX0_restore_4 rfl (lv_at hl 0 rfl) ?_
  refine r_getI (ci := 0) (C := RX0) (U := TX0) (N := 6) hx hb hts kX0_restore_iX0 hown hK hw (47 + jj) (zH_n hjj) (zH_s hjj) rfl 1 (by decide) rfl (hts _ kX0_restore_f15) (fun _ h9 => h9) dX0_restore_5 ?_
  refine lv_aload_n hx hb dX0_restore_8 rfl (lv_at hl 0 rfl) ?_
  refine r_getI (ci := 0) (C := RX0) (U := TX0) (N := 6) hx hb hts kX0_restore_iX0 hown hK hw (47 + jj) (zH_n hjj) (zH_s hjj) rfl 2 (by decide) rfl (hts _ kX0_restore_f24) (fun _ h9 => h9) dX0_restore_9 ?_
  refine lv_topi (fun x1 ex1 => ?_)
  replace h := lt_get h x1 ex1
  have hi2 := (gin_some h).1
  replace h := (gin_some h).2
  refine r_iast ZC_ok hx hb hK hw 12 0 12 (by decide) rfl rfl rfl hi2 dX0_restore_12 (fun H locs sg3 esg3 hw => ?_)
  replace h := lt_get h sg3 esg3
  refine lv_aload_n hx hb dX0_restore_13 rfl (lv_at hl 1 rfl) ?_
  refine r_getR (ci := 2) (C := RX2) (U := TX2) (N := 7) hx hb hts kX0_restore_iX2 hown hK hw 1 (by decide) rfl rfl 4 (by decide) 13 rfl (hts _ kX0_restore_f26) (fun _ h9 => h9) dX0_restore_14 ?_
  refine lv_aload_n hx hb dX0_restore_17 rfl (lv_at hl 0 rfl) ?_
  refine r_getI (ci := 0) (C := RX0) (U := TX0) (N := 6) hx hb hts kX0_restore_iX0 hown hK hw (47 + jj) (zH_n hjj) (zH_s hjj) rfl 1 (by decide) rfl (hts _ kX0_restore_f15) (fun _ h9 => h9) dX0_restore_18 ?_
  refine lv_aload_n hx hb dX0_restore_21 rfl (lv_at hl 0 rfl) ?_
  refine r_getI (ci := 0) (C := RX0) (U := TX0) (N := 6) hx hb hts kX0_restore_iX0 hown hK hw (47 + jj) (zH_n hjj) (zH_s hjj) rfl 3 (by decide) rfl (hts _ kX0_restore_f29) (fun _ h9 => h9) dX0_restore_22 ?_
  refine lv_topi (fun x4 ex4 => ?_)
  replace h := lt_get h x4 ex4
  have hi5 := (gin_some h).1
  replace h := (gin_some h).2
  refine r_iast ZC_ok hx hb hK hw 13 0 12 (by decide) rfl rfl rfl hi5 dX0_restore_25 (fun H locs sg6 esg6 hw => ?_)
  replace h := lt_get h sg6 esg6
  refine lv_aload_n hx hb dX0_restore_26 rfl (lv_at hl 1 rfl) ?_
  refine r_getR (ci := 2) (C := RX2) (U := TX2) (N := 7) hx hb hts kX0_restore_iX2 hown hK hw 1 (by decide) rfl rfl 5 (by decide) 14 rfl (hts _ kX0_restore_f31) (fun _ h9 => h9) dX0_restore_27 ?_
  refine lv_aload_n hx hb dX0_restore_30 rfl (lv_at hl 0 rfl) ?_
  refine r_getI (ci := 0) (C := RX0) (U := TX0) (N := 6) hx hb hts kX0_restore_iX0 hown hK hw (47 + jj) (zH_n hjj) (zH_s hjj) rfl 1 (by decide) rfl (hts _ kX0_restore_f15) (fun _ h9 => h9) dX0_restore_31 ?_
  refine lv_aload_n hx hb dX0_restore_34 rfl (lv_at hl 0 rfl) ?_
  refine r_getI (ci := 0) (C := RX0) (U := TX0) (N := 6) hx hb hts kX0_restore_iX0 hown hK hw (47 + jj) (zH_n hjj) (zH_s hjj) rfl 4 (by decide) rfl (hts _ kX0_restore_f34) (fun _ h9 => h9) dX0_restore_35 ?_
  refine lv_topi (fun x7 ex7 => ?_)
  replace h := lt_get h x7 ex7
  have hi8 := (gin_some h).1
  replace h := (gin_some h).2
  refine r_iast ZC_ok hx hb hK hw 14 0 12 (by decide) rfl rfl rfl hi8 dX0_restore_38 (fun H locs sg9 esg9 hw => ?_)
  replace h := lt_get h sg9 esg9
  refine lv_aload_n hx hb dX0_restore_39 rfl (lv_at hl 0 rfl) ?_
  refine r_getR (ci := 0) (C := RX0) (U := TX0) (N := 6) hx hb hts kX0_restore_iX0 hown hK hw (47 + jj) (zH_n hjj) (zH_s hjj) rfl 5 (by decide) (55 + jj) rfl (hts _ kX0_restore_f9) (fun _ h9 => h9) dX0_restore_40 ?_
  refine lv_iconst (v := (0 : Int32)) hx hb dX0_restore_43 (by decide) ?_
  refine lv_aload_n hx hb dX0_restore_44 rfl (lv_at hl 1 rfl) ?_
  refine r_getR (ci := 2) (C := RX2) (U := TX2) (N := 7) hx hb hts kX0_restore_iX2 hown hK hw 1 (by decide) rfl rfl 6 (by decide) 15 rfl (hts _ kX0_restore_f36) (fun _ h9 => h9) dX0_restore_45 ?_
  refine lv_aload_n hx hb dX0_restore_48 rfl (lv_at hl 0 rfl) ?_
  refine r_getI (ci := 0) (C := RX0) (U := TX0) (N := 6) hx hb hts kX0_restore_iX0 hown hK hw (47 + jj) (zH_n hjj) (zH_s hjj) rfl 1 (by decide) rfl (hts _ kX0_restore_f15) (fun _ h9 => h9) dX0_restore_49 ?_
  refine lv_bipush (v := (12 : Int32)) hx hb dX0_restore_52 (by decide) ?_
  refine lv_imul hx hb dX0_restore_54 ?_
  refine lv_bipush (v := (12 : Int32)) hx hb dX0_restore_55 (by decide) ?_
  have hc10 := (gcp_some h).1
  replace h := (gcp_some h).2
  refine r_copy ZC_okC hx hb (hml.trans hl.1.symm) hown (hts _ kX0_restore_m39) (hts _ kX0_restore_n39) (hts _ kX0_restore_s39) (hts _ kX0_restore_ini_Sys) hK hw (55 + jj) 15 0 (zR_n hjj) (by decide) (zR_s hjj) rfl rfl (zR_l _ hjj) rfl hc10 (Nat.le_of_ble_eq_true rfl) (Nat.le_of_ble_eq_true rfl) dX0_restore_57 (fun H locs sg11 esg11 hw => ?_)
  replace h := lt_get h sg11 esg11
  cases h
  exact r_vret C hw rfl (by decide) (by decide) dX0_restore_60
theorem mX0_restore (l : Launch) (D : va_G) (T : Nat → ClassId) (ad : Nat → Nat) (lg : Lg) (sz : Nat) {jj : Nat} (hjj : jj < 8) (sg : Sg) {so : Sg} (h : fX0_restore jj sg = some so) : Met l yX0_restore wsX0_restore rmX0_restore (PreZ ZC D vwCl T (tysC T) ad sg lg true nwL [.ref (ad (47 + jj)), .ref (ad 1)] sz) (QV ZC D vwCl T (tysC T) (va_A (zwd ZC T ad sg lg) sz) (fun z => ad = z) so lg) 0 0 (va_A (zwd ZC T ad sg lg) sz) :=
  metZ [.ref (ad (47 + jj)), .ref (ad 1)] sz (by decide) rfl (Nat.le_of_ble_eq_true rfl) (fun p e s m below meth c ls C hw hl => tX0_restore_0 C hjj sg _ _ _ hw hl h)
-- PeckYard$Changes.takeBack(LPeckYard$Flock;)V
def rmX1_takeBack : Room := { frames := 2, cells := 0, slots := 0, locals := 81 }
theorem kX1_takeBack_f34 : Cond.fieldLink RX1 34 "PeckYard$Flock" "stamp" "I" ∈ wsX1_takeBack := by decide +kernel
theorem kX1_takeBack_iX2 : ∀ w ∈ u_ws RX2 TX2 7, w ∈ wsX1_takeBack := by decide +kernel
theorem kX1_takeBack_f18 : Cond.fieldLink RX1 18 "PeckYard$Changes" "next" "I" ∈ wsX1_takeBack := by decide +kernel
theorem kX1_takeBack_iX1 : ∀ w ∈ u_ws RX1 TX1 3, w ∈ wsX1_takeBack := by decide +kernel
theorem kX1_takeBack_f39 : Cond.fieldLink RX1 39 "PeckYard$Changes" "kept" "I" ∈ wsX1_takeBack := by decide +kernel
theorem kX1_takeBack_f11 : Cond.fieldLink RX1 11 "PeckYard$Changes" "row" "[LPeckYard$Change;" ∈ wsX1_takeBack := by decide +kernel
theorem kX1_takeBack_f22 : Cond.fieldLink RX1 22 "PeckYard$Change" "isNewHen" "Z" ∈ wsX1_takeBack := by decide +kernel
theorem kX1_takeBack_iX0 : ∀ w ∈ u_ws RX0 TX0 6, w ∈ wsX1_takeBack := by decide +kernel
theorem kX1_takeBack_f48 : Cond.fieldLink RX1 48 "PeckYard$Flock" "size" "I" ∈ wsX1_takeBack := by decide +kernel
def fX1_takeBack  (sg : Sg) : Option (Sg) :=
  lt ((sg 1 1) + (1 : Int32)) (fun x1 => lt (up2 sg 1 1 x1) (fun sg2 => lt ((((sg2 2 1) + (8 : Int32)) - (1 : Int32)) - (((sg2 2 1) + (8 : Int32)) - (1 : Int32)) / (8 : Int32) * (8 : Int32)) (fun x3 => lt (up2 sg2 2 1 x3) (fun sg4 => lt ((sg4 2 0) - (1 : Int32)) (fun x5 => lt (up2 sg4 2 0 x5) (fun sg6 => lt (sg6 2 1) (fun x7 => gin x7 8 ((if (sg6 (47 + x7.toNatClampNeg) 0) = 0 then lt (sg6 2 1) (fun x10 => gin x10 8 (bnd1 (fX0_restore x10.toNatClampNeg sg6) (fun sg12 => some sg12))) else lt ((sg6 1 0) - (1 : Int32)) (fun x14 => lt (up2 sg6 1 0 x14) (fun sg15 => some sg15)))))))))))
set_option maxHeartbeats 4000000 in
set_option maxRecDepth 100000 in
theorem tX1_takeBack_0 (C : Cx p s m args meth c cX1_takeBack 2 RX1 wsX1_takeBack none D vwCl (tysC T) A true nwL) {so : Sg}   : ∀ (sg : Sg), ∀ (H : Heap) (locs : List Loc) (ls : Array Slot), WS ZC D vwCl T ad sg lg A s.heap H locs → lv_has ls 2 [(0, .ref (ad 2)), (1, .ref (ad 1))] → fX1_takeBack sg = some so → W p l e rmX1_takeBack s m args below meth c H locs 0 0 (MQ below (QV ZC D vwCl T (tysC T) A (fun z => ad = z) so lg) args s 0 0 A) (F0 m 0 ls []) := by
  obtain ⟨⟨hx, hb, hml, hown, hts⟩, hr, hlk, hK, hA, hsp⟩ := id C
  intro sg H locs ls hw hl h
  unfold fX1_takeBack at h
  refine lv_aload_n hx hb dX1_takeBack_0 rfl (lv_at hl 1 rfl) ?_
  refine lv_dup hx hb dX1_takeBack_1 rfl ?_
  refine r_getI (ci := 2) (C := RX2) (U := TX2) (N := 7) hx hb hts kX1_takeBack_iX2 hown hK hw 1 (by decide) rfl rfl 1 (by decide) rfl (hts _ kX1_takeBack_f34) (fun _ h9 => h9) dX1_takeBack_2 ?_
  refine lv_iconst (v := (1 : Int32)) hx hb dX1_takeBack_5 (by decide) ?_
  refine lv_iadd hx hb dX1_takeBack_6 ?_
  refine lv_topi (fun x1 ex1 => ?_)
  replace h := lt_get h x1 ex1
  refine r_putI ZC_ok (ci := 2) (C := RX2) (U := TX2) (N := 7) (ty := .int) hx hb hts kX1_takeBack_iX2 tyX2 tyX2_ok nmX2 hown hK hw 1 (by decide) rfl rfl 1 (by decide) rfl (hts _ kX1_takeBack_f34) (fun _ h9 => h9) rfl (by decide +kernel) rfl rfl dX1_takeBack_7 (fun H locs sg2 esg2 hw => ?_)
  replace h := lt_get h sg2 esg2
  refine lv_aload_n hx hb dX1_takeBack_10 rfl (lv_at hl 0 rfl) ?_
  refine lv_aload_n hx hb dX1_takeBack_11 rfl (lv_at hl 0 rfl) ?_
  refine r_getI (ci := 1) (C := RX1) (U := TX1) (N := 3) hx hb hts kX1_takeBack_iX1 hown hK hw 2 (by decide) rfl rfl 1 (by decide) rfl (hts _ kX1_takeBack_f18) (fun _ h9 => h9) dX1_takeBack_12 ?_
  refine lv_bipush (v := (8 : Int32)) hx hb dX1_takeBack_15 (by decide) ?_
  refine lv_iadd hx hb dX1_takeBack_17 ?_
  refine lv_iconst (v := (1 : Int32)) hx hb dX1_takeBack_18 (by decide) ?_
  refine lv_isub hx hb dX1_takeBack_19 ?_
  refine lv_bipush (v := (8 : Int32)) hx hb dX1_takeBack_20 (by decide) ?_
  refine lv_irem hx hb dX1_takeBack_22 (by decide) ?_
  refine lv_topi (fun x3 ex3 => ?_)
  replace h := lt_get h x3 ex3
  refine r_putI ZC_ok (ci := 1) (C := RX1) (U := TX1) (N := 3) (ty := .int) hx hb hts kX1_takeBack_iX1 tyX1 tyX1_ok nmX1 hown hK hw 2 (by decide) rfl rfl 1 (by decide) rfl (hts _ kX1_takeBack_f18) (fun _ h9 => h9) rfl (by decide +kernel) rfl rfl dX1_takeBack_23 (fun H locs sg4 esg4 hw => ?_)
  replace h := lt_get h sg4 esg4
  refine lv_aload_n hx hb dX1_takeBack_26 rfl (lv_at hl 0 rfl) ?_
  refine lv_dup hx hb dX1_takeBack_27 rfl ?_
  refine r_getI (ci := 1) (C := RX1) (U := TX1) (N := 3) hx hb hts kX1_takeBack_iX1 hown hK hw 2 (by decide) rfl rfl 0 (by decide) rfl (hts _ kX1_takeBack_f39) (fun _ h9 => h9) dX1_takeBack_28 ?_
  refine lv_iconst (v := (1 : Int32)) hx hb dX1_takeBack_31 (by decide) ?_
  refine lv_isub hx hb dX1_takeBack_32 ?_
  refine lv_topi (fun x5 ex5 => ?_)
  replace h := lt_get h x5 ex5
  refine r_putI ZC_ok (ci := 1) (C := RX1) (U := TX1) (N := 3) (ty := .int) hx hb hts kX1_takeBack_iX1 tyX1 tyX1_ok nmX1 hown hK hw 2 (by decide) rfl rfl 0 (by decide) rfl (hts _ kX1_takeBack_f39) (fun _ h9 => h9) rfl (by decide +kernel) rfl rfl dX1_takeBack_33 (fun H locs sg6 esg6 hw => ?_)
  replace h := lt_get h sg6 esg6
  refine lv_aload_n hx hb dX1_takeBack_36 rfl (lv_at hl 0 rfl) ?_
  refine r_getR (ci := 1) (C := RX1) (U := TX1) (N := 3) hx hb hts kX1_takeBack_iX1 hown hK hw 2 (by decide) rfl rfl 2 (by decide) 16 rfl (hts _ kX1_takeBack_f11) (fun _ h9 => h9) dX1_takeBack_37 ?_
  refine lv_aload_n hx hb dX1_takeBack_40 rfl (lv_at hl 0 rfl) ?_
  refine r_getI (ci := 1) (C := RX1) (U := TX1) (N := 3) hx hb hts kX1_takeBack_iX1 hown hK hw 2 (by decide) rfl rfl 1 (by decide) rfl (hts _ kX1_takeBack_f18) (fun _ h9 => h9) dX1_takeBack_41 ?_
  refine lv_topi (fun x7 ex7 => ?_)
  replace h := lt_get h x7 ex7
  have hi8 := (gin_some h).1
  replace h := (gin_some h).2
  refine r_qald hx hb hK hw 16 2 8 (by decide) rfl rfl rfl hi8 dX1_takeBack_44 rfl ?_
  refine r_getI (ci := 0) (C := RX0) (U := TX0) (N := 6) hx hb hts kX1_takeBack_iX0 hown hK hw (47 + x7.toNatClampNeg) (zH_n (vin_lt hi8)) (zH_s (vin_lt hi8)) rfl 0 (by decide) rfl (hts _ kX1_takeBack_f22) (fun _ h9 => h9) dX1_takeBack_45 ?_
  refine lv_if_eq (tgt := 64) hx hb dX1_takeBack_48 (by decide) (fun c9 => ?_) (fun c9 => ?_)
  · replace h := ite_t h c9
    refine lv_aload_n hx hb dX1_takeBack_64 rfl (lv_at hl 0 rfl) ?_
    refine r_getR (ci := 1) (C := RX1) (U := TX1) (N := 3) hx hb hts kX1_takeBack_iX1 hown hK hw 2 (by decide) rfl rfl 2 (by decide) 16 rfl (hts _ kX1_takeBack_f11) (fun _ h9 => h9) dX1_takeBack_65 ?_
    refine lv_aload_n hx hb dX1_takeBack_68 rfl (lv_at hl 0 rfl) ?_
    refine r_getI (ci := 1) (C := RX1) (U := TX1) (N := 3) hx hb hts kX1_takeBack_iX1 hown hK hw 2 (by decide) rfl rfl 1 (by decide) rfl (hts _ kX1_takeBack_f18) (fun _ h9 => h9) dX1_takeBack_69 ?_
    refine lv_topi (fun x10 ex10 => ?_)
    replace h := lt_get h x10 ex10
    have hi11 := (gin_some h).1
    replace h := (gin_some h).2
    refine r_qald hx hb hK hw 16 2 8 (by decide) rfl rfl rfl hi11 dX1_takeBack_72 rfl ?_
    refine lv_aload_n hx hb dX1_takeBack_73 rfl (lv_at hl 1 rfl) ?_
    obtain ⟨sg12, hq13, h2⟩ := bnd1_some h
    replace h := h2
    clear h2
    refine r_cVv (As := [.ref (ad 1)]) (rest := []) C hw (47 + x10.toNatClampNeg) (zH_n (vin_lt hi11)) (ci := 0) (zH_s (vin_lt hi11)) rfl (mX0_restore l D T ad lg H.size (vin_lt hi11) sg6 hq13) (cwV 1 hts gX1_takeBack_X0_restore rfl rfl rfl (by decide +kernel) ⟨Nat.le_of_ble_eq_true rfl, Nat.le_of_ble_eq_true rfl⟩) rfl hl.1 rfl (Nat.le_of_ble_eq_true rfl) dX1_takeBack_74 ⟨Nat.le_of_ble_eq_true rfl, Nat.le_of_ble_eq_true rfl⟩ (fun ad' H locs hp hw => ?_)
    subst hp
    refine W.widen (k := 0) (n := 0) (by decide) (by decide) ?_
    cases h
    exact r_vret C hw rfl (by decide) (by decide) dX1_takeBack_77
  · replace h := ite_f h c9
    refine lv_aload_n hx hb dX1_takeBack_51 rfl (lv_at hl 1 rfl) ?_
    refine lv_dup hx hb dX1_takeBack_52 rfl ?_
    refine r_getI (ci := 2) (C := RX2) (U := TX2) (N := 7) hx hb hts kX1_takeBack_iX2 hown hK hw 1 (by decide) rfl rfl 0 (by decide) rfl (hts _ kX1_takeBack_f48) (fun _ h9 => h9) dX1_takeBack_53 ?_
    refine lv_iconst (v := (1 : Int32)) hx hb dX1_takeBack_56 (by decide) ?_
    refine lv_isub hx hb dX1_takeBack_57 ?_
    refine lv_topi (fun x14 ex14 => ?_)
    replace h := lt_get h x14 ex14
    refine r_putI ZC_ok (ci := 2) (C := RX2) (U := TX2) (N := 7) (ty := .int) hx hb hts kX1_takeBack_iX2 tyX2 tyX2_ok nmX2 hown hK hw 1 (by decide) rfl rfl 0 (by decide) rfl (hts _ kX1_takeBack_f48) (fun _ h9 => h9) rfl (by decide +kernel) rfl rfl dX1_takeBack_58 (fun H locs sg15 esg15 hw => ?_)
    replace h := lt_get h sg15 esg15
    refine lv_goto (tgt := 77) hx hb dX1_takeBack_61 (by decide) ?_
    cases h
    exact r_vret C hw rfl (by decide) (by decide) dX1_takeBack_77
theorem mX1_takeBack (l : Launch) (D : va_G) (T : Nat → ClassId) (ad : Nat → Nat) (lg : Lg) (sz : Nat)   (sg : Sg) {so : Sg} (h : fX1_takeBack sg = some so) : Met l yX1_takeBack wsX1_takeBack rmX1_takeBack (PreZ ZC D vwCl T (tysC T) ad sg lg true nwL [.ref (ad 2), .ref (ad 1)] sz) (QV ZC D vwCl T (tysC T) (va_A (zwd ZC T ad sg lg) sz) (fun z => ad = z) so lg) 0 0 (va_A (zwd ZC T ad sg lg) sz) :=
  metZ [.ref (ad 2), .ref (ad 1)] sz (by decide) rfl (Nat.le_of_ble_eq_true rfl) (fun p e s m below meth c ls C hw hl => tX1_takeBack_0 C sg _ _ _ hw hl h)
-- PeckYard.undo()J
def rmX11_undo : Room := { frames := 3, cells := 0, slots := 0, locals := 102 }
theorem kX11_undo_f19 : Cond.fieldLink RX11 19 "PeckYard" "changes" "LPeckYard$Changes;" ∈ wsX11_undo := by decide +kernel
theorem kX11_undo_iX11 : ∀ w ∈ u_ws RX11 TX11 9, w ∈ wsX11_undo := by decide +kernel
theorem kX11_undo_f142 : Cond.fieldLink RX11 142 "PeckYard$Changes" "kept" "I" ∈ wsX11_undo := by decide +kernel
theorem kX11_undo_iX1 : ∀ w ∈ u_ws RX1 TX1 3, w ∈ wsX11_undo := by decide +kernel
theorem kX11_undo_f10 : Cond.fieldLink RX11 10 "PeckYard" "flock" "LPeckYard$Flock;" ∈ wsX11_undo := by decide +kernel
theorem kX11_undo_c113 : Cond.constantLong RX11 113 (-2000000002) ∈ wsX11_undo := by decide +kernel
def fX11_undo  (sg : Sg) : Option (Int64 × Sg) :=
  (if (sg 2 0) = 0 then some ((-2000000002 : Int64), sg) else bnd1 (fX1_takeBack sg) (fun sg2 => some ((sg2 2 0).toInt64, sg2)))
set_option maxHeartbeats 4000000 in
set_option maxRecDepth 100000 in
theorem tX11_undo_0 (C : Cx p s m args meth c cX11_undo 1 RX11 wsX11_undo (some .long) D vwCl (tysC T) A true nwL) {ro : Int64} {so : Sg}   : ∀ (sg : Sg), ∀ (H : Heap) (locs : List Loc) (ls : Array Slot), WS ZC D vwCl T ad sg lg A s.heap H locs → lv_has ls 1 [(0, .ref (ad 0))] → fX11_undo sg = some (ro, so) → W p l e rmX11_undo s m args below meth c H locs 0 0 (MQ below (QL ZC D vwCl T (tysC T) A (fun z => ad = z) ro so lg) args s 0 0 A) (F0 m 0 ls []) := by
  obtain ⟨⟨hx, hb, hml, hown, hts⟩, hr, hlk, hK, hA, hsp⟩ := id C
  intro sg H locs ls hw hl h
  unfold fX11_undo at h
  refine lv_aload_n hx hb dX11_undo_0 rfl (lv_at hl 0 rfl) ?_
  refine r_getR (ci := 11) (C := RX11) (U := TX11) (N := 9) hx hb hts kX11_undo_iX11 hown hK hw 0 (by decide) rfl rfl 1 (by decide) 2 rfl (hts _ kX11_undo_f19) (fun _ h9 => h9) dX11_undo_1 ?_
  refine r_getI (ci := 1) (C := RX1) (U := TX1) (N := 3) hx hb hts kX11_undo_iX1 hown hK hw 2 (by decide) rfl rfl 0 (by decide) rfl (hts _ kX11_undo_f142) (fun _ h9 => h9) dX11_undo_4 ?_
  refine lv_if_ne (tgt := 14) hx hb dX11_undo_7 (by decide) (fun c1 => ?_) (fun c1 => ?_)
  · replace h := ite_f h c1
    refine lv_aload_n hx hb dX11_undo_14 rfl (lv_at hl 0 rfl) ?_
    refine r_getR (ci := 11) (C := RX11) (U := TX11) (N := 9) hx hb hts kX11_undo_iX11 hown hK hw 0 (by decide) rfl rfl 1 (by decide) 2 rfl (hts _ kX11_undo_f19) (fun _ h9 => h9) dX11_undo_15 ?_
    refine lv_aload_n hx hb dX11_undo_18 rfl (lv_at hl 0 rfl) ?_
    refine r_getR (ci := 11) (C := RX11) (U := TX11) (N := 9) hx hb hts kX11_undo_iX11 hown hK hw 0 (by decide) rfl rfl 0 (by decide) 1 rfl (hts _ kX11_undo_f10) (fun _ h9 => h9) dX11_undo_19 ?_
    obtain ⟨sg2, hq3, h2⟩ := bnd1_some h
    replace h := h2
    clear h2
    refine r_cVv (As := [.ref (ad 1)]) (rest := []) C hw 2 (by decide) (ci := 1) rfl rfl (mX1_takeBack l D T ad lg H.size sg hq3) (cwV 1 hts gX11_undo_X1_takeBack rfl rfl rfl (by decide +kernel) ⟨Nat.le_of_ble_eq_true rfl, Nat.le_of_ble_eq_true rfl⟩) rfl hl.1 rfl (Nat.le_of_ble_eq_true rfl) dX11_undo_22 ⟨Nat.le_of_ble_eq_true rfl, Nat.le_of_ble_eq_true rfl⟩ (fun ad' H locs hp hw => ?_)
    subst hp
    refine W.widen (k := 0) (n := 0) (by decide) (by decide) ?_
    refine lv_aload_n hx hb dX11_undo_25 rfl (lv_at hl 0 rfl) ?_
    refine r_getR (ci := 11) (C := RX11) (U := TX11) (N := 9) hx hb hts kX11_undo_iX11 hown hK hw 0 (by decide) rfl rfl 1 (by decide) 2 rfl (hts _ kX11_undo_f19) (fun _ h9 => h9) dX11_undo_26 ?_
    refine r_getI (ci := 1) (C := RX1) (U := TX1) (N := 3) hx hb hts kX11_undo_iX1 hown hK hw 2 (by decide) rfl rfl 0 (by decide) rfl (hts _ kX11_undo_f142) (fun _ h9 => h9) dX11_undo_29 ?_
    refine lv_i2l (v := (sg2 2 0).toInt64) hx hb dX11_undo_32 rfl ?_
    cases h
    exact r_lret C hw rfl (by decide) (by decide) dX11_undo_33
  · replace h := ite_t h c1
    refine lv_ldc2 hx hb hown (hts _ kX11_undo_c113) dX11_undo_10 ?_
    cases h
    exact r_lret C hw rfl (by decide) (by decide) dX11_undo_13
theorem mX11_undo (l : Launch) (D : va_G) (T : Nat → ClassId) (ad : Nat → Nat) (lg : Lg) (sz : Nat)   (sg : Sg) {ro : Int64} {so : Sg} (h : fX11_undo sg = some (ro, so)) : Met l yX11_undo wsX11_undo rmX11_undo (PreZ ZC D vwCl T (tysC T) ad sg lg true nwL [.ref (ad 0)] sz) (QL ZC D vwCl T (tysC T) (va_A (zwd ZC T ad sg lg) sz) (fun z => ad = z) ro so lg) 0 0 (va_A (zwd ZC T ad sg lg) sz) :=
  metZ [.ref (ad 0)] sz (by decide) rfl (Nat.le_of_ble_eq_true rfl) (fun p e s m below meth c ls C hw hl => tX11_undo_0 C sg _ _ _ hw hl h)
-- PeckYard$Muster.gatherPecks(I)V
def rmX8_gatherPecks : Room := { frames := 0, cells := 0, slots := 0, locals := 0 }
theorem kX8_gatherPecks_f44 : Cond.fieldLink RX8 44 "PeckYard$Muster" "size" "I" ∈ wsX8_gatherPecks := by decide +kernel
theorem kX8_gatherPecks_iX8 : ∀ w ∈ u_ws RX8 TX8 10, w ∈ wsX8_gatherPecks := by decide +kernel
theorem kX8_gatherPecks_f34 : Cond.fieldLink RX8 34 "PeckYard$Muster" "pecks" "[I" ∈ wsX8_gatherPecks := by decide +kernel
theorem kX8_gatherPecks_f37 : Cond.fieldLink RX8 37 "PeckYard$Muster" "flock" "LPeckYard$Flock;" ∈ wsX8_gatherPecks := by decide +kernel
theorem kX8_gatherPecks_f59 : Cond.fieldLink RX8 59 "PeckYard$Flock" "weights" "[I" ∈ wsX8_gatherPecks := by decide +kernel
theorem kX8_gatherPecks_iX2 : ∀ w ∈ u_ws RX2 TX2 7, w ∈ wsX8_gatherPecks := by decide +kernel
theorem kX8_gatherPecks_f15 : Cond.fieldLink RX8 15 "PeckYard$Muster" "hens" "[I" ∈ wsX8_gatherPecks := by decide +kernel
def fX8_gatherPecks_2 (r2 : (Int32 × Int32 × Sg) → Option (Sg)) (v1 : Int32) (v2 : Int32) (sg : Sg) : Option (Sg) :=
  (if (sg 3 2) ≤ v2 then some sg else gin v1 12 (gin v2 12 (lt (((sg 17 v1.toNatClampNeg) * (12 : Int32)) + (sg 17 v2.toNatClampNeg)) (fun x4 => gin x4 144 (lt (sg 15 x4.toNatClampNeg) (fun x6 => gin ((v1 * (12 : Int32)) + v2) 144 (lt (up2 sg 23 ((v1 * (12 : Int32)) + v2).toNatClampNeg x6) (fun sg8 => lt (v2 + (1 : Int32)) (fun x9 => r2 (v1, x9, sg8))))))))))
set_option maxHeartbeats 4000000 in
set_option maxRecDepth 100000 in
theorem tX8_gatherPecks_2 (C : Cx p s m args meth c cX8_gatherPecks 3 RX8 wsX8_gatherPecks none D vwCl (tysC T) A true nwL) {so : Sg} {r2 : (Int32 × Int32 × Sg) → Option (Sg)} (hr2 : ∀ (v1 : Int32) (v2 : Int32) (sg : Sg), r2 (v1, v2, sg) = some so → ∀ (H : Heap) (locs : List Loc) (ls : Array Slot), WS ZC D vwCl T ad sg lg A s.heap H locs → lv_has ls 3 [(0, .ref (ad 3)), (1, .int v1), (2, .int v2)] → W p l e rmX8_gatherPecks s m args below meth c H locs 0 0 (MQ below (QV ZC D vwCl T (tysC T) A (fun z => ad = z) so lg) args s 0 0 A) (F0 m 2 ls [])) : ∀ (v1 : Int32) (v2 : Int32) (sg : Sg), ∀ (H : Heap) (locs : List Loc) (ls : Array Slot), WS ZC D vwCl T ad sg lg A s.heap H locs → lv_has ls 3 [(0, .ref (ad 3)), (1, .int v1), (2, .int v2)] → fX8_gatherPecks_2 r2 v1 v2 sg = some so → W p l e rmX8_gatherPecks s m args below meth c H locs 0 0 (MQ below (QV ZC D vwCl T (tysC T) A (fun z => ad = z) so lg) args s 0 0 A) (F0 m 2 ls []) := by
  obtain ⟨⟨hx, hb, hml, hown, hts⟩, hr, hlk, hK, hA, hsp⟩ := id C
  intro v1 v2 sg H locs ls hw hl h
  unfold fX8_gatherPecks_2 at h
  refine lv_iload_n hx hb dX8_gatherPecks_2 rfl (lv_at hl 2 rfl) ?_
  refine lv_aload_n hx hb dX8_gatherPecks_3 rfl (lv_at hl 0 rfl) ?_
  refine r_getI (ci := 8) (C := RX8) (U := TX8) (N := 10) hx hb hts kX8_gatherPecks_iX8 hown hK hw 3 (by decide) rfl rfl 2 (by decide) rfl (hts _ kX8_gatherPecks_f44) (fun _ h9 => h9) dX8_gatherPecks_4 ?_
  refine lv_icmp_ge (tgt := 51) hx hb dX8_gatherPecks_7 (by decide) (fun c1 => ?_) (fun c1 => ?_)
  · replace h := ite_t h c1
    cases h
    exact r_vret C hw rfl (by decide) (by decide) dX8_gatherPecks_51
  · replace h := ite_f h c1
    refine lv_aload_n hx hb dX8_gatherPecks_10 rfl (lv_at hl 0 rfl) ?_
    refine r_getR (ci := 8) (C := RX8) (U := TX8) (N := 10) hx hb hts kX8_gatherPecks_iX8 hown hK hw 3 (by decide) rfl rfl 9 (by decide) 23 rfl (hts _ kX8_gatherPecks_f34) (fun _ h9 => h9) dX8_gatherPecks_11 ?_
    refine lv_iload_n hx hb dX8_gatherPecks_14 rfl (lv_at hl 1 rfl) ?_
    refine lv_bipush (v := (12 : Int32)) hx hb dX8_gatherPecks_15 (by decide) ?_
    refine lv_imul hx hb dX8_gatherPecks_17 ?_
    refine lv_iload_n hx hb dX8_gatherPecks_18 rfl (lv_at hl 2 rfl) ?_
    refine lv_iadd hx hb dX8_gatherPecks_19 ?_
    refine lv_aload_n hx hb dX8_gatherPecks_20 rfl (lv_at hl 0 rfl) ?_
    refine r_getR (ci := 8) (C := RX8) (U := TX8) (N := 10) hx hb hts kX8_gatherPecks_iX8 hown hK hw 3 (by decide) rfl rfl 0 (by decide) 1 rfl (hts _ kX8_gatherPecks_f37) (fun _ h9 => h9) dX8_gatherPecks_21 ?_
    refine r_getR (ci := 2) (C := RX2) (U := TX2) (N := 7) hx hb hts kX8_gatherPecks_iX2 hown hK hw 1 (by decide) rfl rfl 6 (by decide) 15 rfl (hts _ kX8_gatherPecks_f59) (fun _ h9 => h9) dX8_gatherPecks_24 ?_
    refine lv_aload_n hx hb dX8_gatherPecks_27 rfl (lv_at hl 0 rfl) ?_
    refine r_getR (ci := 8) (C := RX8) (U := TX8) (N := 10) hx hb hts kX8_gatherPecks_iX8 hown hK hw 3 (by decide) rfl rfl 3 (by decide) 17 rfl (hts _ kX8_gatherPecks_f15) (fun _ h9 => h9) dX8_gatherPecks_28 ?_
    refine lv_iload_n hx hb dX8_gatherPecks_31 rfl (lv_at hl 1 rfl) ?_
    have hi2 := (gin_some h).1
    replace h := (gin_some h).2
    refine r_iald hx hb hK hw 17 0 12 (by decide) rfl rfl rfl hi2 dX8_gatherPecks_32 ?_
    refine lv_bipush (v := (12 : Int32)) hx hb dX8_gatherPecks_33 (by decide) ?_
    refine lv_imul hx hb dX8_gatherPecks_35 ?_
    refine lv_aload_n hx hb dX8_gatherPecks_36 rfl (lv_at hl 0 rfl) ?_
    refine r_getR (ci := 8) (C := RX8) (U := TX8) (N := 10) hx hb hts kX8_gatherPecks_iX8 hown hK hw 3 (by decide) rfl rfl 3 (by decide) 17 rfl (hts _ kX8_gatherPecks_f15) (fun _ h9 => h9) dX8_gatherPecks_37 ?_
    refine lv_iload_n hx hb dX8_gatherPecks_40 rfl (lv_at hl 2 rfl) ?_
    have hi3 := (gin_some h).1
    replace h := (gin_some h).2
    refine r_iald hx hb hK hw 17 0 12 (by decide) rfl rfl rfl hi3 dX8_gatherPecks_41 ?_
    refine lv_iadd hx hb dX8_gatherPecks_42 ?_
    refine lv_topi (fun x4 ex4 => ?_)
    replace h := lt_get h x4 ex4
    have hi5 := (gin_some h).1
    replace h := (gin_some h).2
    refine r_iald hx hb hK hw 15 0 144 (by decide) rfl rfl rfl hi5 dX8_gatherPecks_43 ?_
    refine lv_topi (fun x6 ex6 => ?_)
    replace h := lt_get h x6 ex6
    have hi7 := (gin_some h).1
    replace h := (gin_some h).2
    refine r_iast ZC_ok hx hb hK hw 23 0 144 (by decide) rfl rfl rfl hi7 dX8_gatherPecks_44 (fun H locs sg8 esg8 hw => ?_)
    replace h := lt_get h sg8 esg8
    obtain ⟨x9, ex9⟩ : ∃ z : Int32, z = (v2 + (1 : Int32)) := ⟨_, rfl⟩
    replace h := lt_get h x9 ex9
    refine lv_iinc (v := x9) (lv' := [(2, .int x9), (0, .ref (ad 3)), (1, .int v1)]) hx hb dX8_gatherPecks_45 hl (k := 2) rfl (by rw [ex9]; rfl) (by decide) rfl (fun ls hl => ?_)
    refine lv_goto (tgt := 2) hx hb dX8_gatherPecks_48 (by decide) ?_
    exact hr2 v1 x9 sg8 h _ _ _ hw (lv_sub hl [1, 2, 0] rfl)
def LX8_gatherPecks_2  : (Int32 × Int32 × Sg) → Option (Sg) := loop (fun rec z => fX8_gatherPecks_2 rec z.1 z.2.1 z.2.2)
theorem TX8_gatherPecks_2 (C : Cx p s m args meth c cX8_gatherPecks 3 RX8 wsX8_gatherPecks none D vwCl (tysC T) A true nwL) {so : Sg}   : ∀ (v1 : Int32) (v2 : Int32) (sg : Sg), LX8_gatherPecks_2 (v1, v2, sg) = some so → ∀ (H : Heap) (locs : List Loc) (ls : Array Slot), WS ZC D vwCl T ad sg lg A s.heap H locs → lv_has ls 3 [(0, .ref (ad 3)), (1, .int v1), (2, .int v2)] → W p l e rmX8_gatherPecks s m args below meth c H locs 0 0 (MQ below (QV ZC D vwCl T (tysC T) A (fun z => ad = z) so lg) args s 0 0 A) (F0 m 2 ls []) := by
  have key : ∀ z : (Int32 × Int32 × Sg), LX8_gatherPecks_2  z = some so → ∀ (H : Heap) (locs : List Loc) (ls : Array Slot), WS ZC D vwCl T ad z.2.2 lg A s.heap H locs → lv_has ls 3 [(0, .ref (ad 3)), (1, .int z.1), (2, .int z.2.1)] → W p l e rmX8_gatherPecks s m args below meth c H locs 0 0 (MQ below (QV ZC D vwCl T (tysC T) A (fun z => ad = z) so lg) args s 0 0 A) (F0 m 2 ls []) := by
    intro z h
    unfold LX8_gatherPecks_2 at h
    exact loop_ind (fun rec z => fX8_gatherPecks_2 rec z.1 z.2.1 z.2.2) (y := so) (P := fun z => ∀ (H : Heap) (locs : List Loc) (ls : Array Slot), WS ZC D vwCl T ad z.2.2 lg A s.heap H locs → lv_has ls 3 [(0, .ref (ad 3)), (1, .int z.1), (2, .int z.2.1)] → W p l e rmX8_gatherPecks s m args below meth c H locs 0 0 (MQ below (QV ZC D vwCl T (tysC T) A (fun z => ad = z) so lg) args s 0 0 A) (F0 m 2 ls [])) (fun rec hrec z h H locs ls hw hl => tX8_gatherPecks_2 C  (fun v1 v2 sg => hrec (v1, v2, sg)) z.1 z.2.1 z.2.2 H locs ls hw hl h) z h
  exact fun v1 v2 sg => key (v1, v2, sg)
def fX8_gatherPecks  (v1 : Int32) (sg : Sg) : Option (Sg) :=
  LX8_gatherPecks_2 (v1, (0 : Int32), sg)
set_option maxHeartbeats 4000000 in
set_option maxRecDepth 100000 in
theorem tX8_gatherPecks_0 (C : Cx p s m args meth c cX8_gatherPecks 3 RX8 wsX8_gatherPecks none D vwCl (tysC T) A true nwL) {so : Sg}   : ∀ (v1 : Int32) (sg : Sg), ∀ (H : Heap) (locs : List Loc) (ls : Array Slot), WS ZC D vwCl T ad sg lg A s.heap H locs → lv_has ls 3 [(0, .ref (ad 3)), (1, .int v1)] → fX8_gatherPecks v1 sg = some so → W p l e rmX8_gatherPecks s m args below meth c H locs 0 0 (MQ below (QV ZC D vwCl T (tysC T) A (fun z => ad = z) so lg) args s 0 0 A) (F0 m 0 ls []) := by
  obtain ⟨⟨hx, hb, hml, hown, hts⟩, hr, hlk, hK, hA, hsp⟩ := id C
  intro v1 sg H locs ls hw hl h
  unfold fX8_gatherPecks at h
  refine lv_iconst (v := (0 : Int32)) hx hb dX8_gatherPecks_0 (by decide) ?_
  refine lv_istore_n (lv' := [(2, .int (0 : Int32)), (0, .ref (ad 3)), (1, .int v1)]) hx hb dX8_gatherPecks_1 rfl hl (by decide) rfl (fun ls hl => ?_)
  exact TX8_gatherPecks_2 C v1 (0 : Int32) sg h _ _ _ hw (lv_sub hl [1, 2, 0] rfl)
theorem mX8_gatherPecks (l : Launch) (D : va_G) (T : Nat → ClassId) (ad : Nat → Nat) (lg : Lg) (sz : Nat)   (v1 : Int32) (sg : Sg) {so : Sg} (h : fX8_gatherPecks v1 sg = some so) : Met l yX8_gatherPecks wsX8_gatherPecks rmX8_gatherPecks (PreZ ZC D vwCl T (tysC T) ad sg lg true nwL [.ref (ad 3), .int v1] sz) (QV ZC D vwCl T (tysC T) (va_A (zwd ZC T ad sg lg) sz) (fun z => ad = z) so lg) 0 0 (va_A (zwd ZC T ad sg lg) sz) :=
  metZ [.ref (ad 3), .int v1] sz (by decide) rfl (Nat.le_of_ble_eq_true rfl) (fun p e s m below meth c ls C hw hl => tX8_gatherPecks_0 C v1 sg _ _ _ hw hl h)
-- PeckYard$Flock.asksForSomebody(I)Z
def rmX2_asksForSomebody : Room := { frames := 0, cells := 0, slots := 0, locals := 0 }
theorem kX2_asksForSomebody_f9 : Cond.fieldLink RX2 9 "PeckYard$Flock" "kind" "[I" ∈ wsX2_asksForSomebody := by decide +kernel
theorem kX2_asksForSomebody_iX2 : ∀ w ∈ u_ws RX2 TX2 7, w ∈ wsX2_asksForSomebody := by decide +kernel
theorem kX2_asksForSomebody_f15 : Cond.fieldLink RX2 15 "PeckYard$Flock" "asks" "[I" ∈ wsX2_asksForSomebody := by decide +kernel
theorem kX2_asksForSomebody_c43 : Cond.constant RX2 43 (-2000000005) ∈ wsX2_asksForSomebody := by decide +kernel
def fX2_asksForSomebody  (v1 : Int32) (sg : Sg) : Option (Int32 × Sg) :=
  gin v1 12 ((if (sg 11 v1.toNatClampNeg) = 0 then some ((0 : Int32), sg) else gin v1 12 ((if (sg 11 v1.toNatClampNeg) = (4 : Int32) then some ((0 : Int32), sg) else gin v1 12 ((if (sg 12 v1.toNatClampNeg) = (-2000000005 : Int32) then some ((0 : Int32), sg) else some ((1 : Int32), sg)))))))
set_option maxHeartbeats 4000000 in
set_option maxRecDepth 100000 in
theorem tX2_asksForSomebody_0 (C : Cx p s m args meth c cX2_asksForSomebody 2 RX2 wsX2_asksForSomebody (some .boolean) D vwCl (tysC T) A true nwL) {ro : Int32} {so : Sg}   : ∀ (v1 : Int32) (sg : Sg), ∀ (H : Heap) (locs : List Loc) (ls : Array Slot), WS ZC D vwCl T ad sg lg A s.heap H locs → lv_has ls 2 [(0, .ref (ad 1)), (1, .int v1)] → fX2_asksForSomebody v1 sg = some (ro, so) → W p l e rmX2_asksForSomebody s m args below meth c H locs 0 0 (MQ below (QI ZC D vwCl T (tysC T) A (fun z => ad = z) ro so lg) args s 0 0 A) (F0 m 0 ls []) := by
  obtain ⟨⟨hx, hb, hml, hown, hts⟩, hr, hlk, hK, hA, hsp⟩ := id C
  intro v1 sg H locs ls hw hl h
  unfold fX2_asksForSomebody at h
  refine lv_aload_n hx hb dX2_asksForSomebody_0 rfl (lv_at hl 0 rfl) ?_
  refine r_getR (ci := 2) (C := RX2) (U := TX2) (N := 7) hx hb hts kX2_asksForSomebody_iX2 hown hK hw 1 (by decide) rfl rfl 2 (by decide) 11 rfl (hts _ kX2_asksForSomebody_f9) (fun _ h9 => h9) dX2_asksForSomebody_1 ?_
  refine lv_iload_n hx hb dX2_asksForSomebody_4 rfl (lv_at hl 1 rfl) ?_
  have hi1 := (gin_some h).1
  replace h := (gin_some h).2
  refine r_iald hx hb hK hw 11 0 12 (by decide) rfl rfl rfl hi1 dX2_asksForSomebody_5 ?_
  refine lv_if_eq (tgt := 34) hx hb dX2_asksForSomebody_6 (by decide) (fun c2 => ?_) (fun c2 => ?_)
  · replace h := ite_t h c2
    refine lv_iconst (v := (0 : Int32)) hx hb dX2_asksForSomebody_34 (by decide) ?_
    cases h
    exact r_zret C hw rfl (by decide) (by decide) (by decide) dX2_asksForSomebody_35
  · replace h := ite_f h c2
    refine lv_aload_n hx hb dX2_asksForSomebody_9 rfl (lv_at hl 0 rfl) ?_
    refine r_getR (ci := 2) (C := RX2) (U := TX2) (N := 7) hx hb hts kX2_asksForSomebody_iX2 hown hK hw 1 (by decide) rfl rfl 2 (by decide) 11 rfl (hts _ kX2_asksForSomebody_f9) (fun _ h9 => h9) dX2_asksForSomebody_10 ?_
    refine lv_iload_n hx hb dX2_asksForSomebody_13 rfl (lv_at hl 1 rfl) ?_
    have hi3 := (gin_some h).1
    replace h := (gin_some h).2
    refine r_iald hx hb hK hw 11 0 12 (by decide) rfl rfl rfl hi3 dX2_asksForSomebody_14 ?_
    refine lv_iconst (v := (4 : Int32)) hx hb dX2_asksForSomebody_15 (by decide) ?_
    refine lv_icmp_eq (tgt := 34) hx hb dX2_asksForSomebody_16 (by decide) (fun c4 => ?_) (fun c4 => ?_)
    · replace h := ite_t h c4
      refine lv_iconst (v := (0 : Int32)) hx hb dX2_asksForSomebody_34 (by decide) ?_
      cases h
      exact r_zret C hw rfl (by decide) (by decide) (by decide) dX2_asksForSomebody_35
    · replace h := ite_f h c4
      refine lv_aload_n hx hb dX2_asksForSomebody_19 rfl (lv_at hl 0 rfl) ?_
      refine r_getR (ci := 2) (C := RX2) (U := TX2) (N := 7) hx hb hts kX2_asksForSomebody_iX2 hown hK hw 1 (by decide) rfl rfl 3 (by decide) 12 rfl (hts _ kX2_asksForSomebody_f15) (fun _ h9 => h9) dX2_asksForSomebody_20 ?_
      refine lv_iload_n hx hb dX2_asksForSomebody_23 rfl (lv_at hl 1 rfl) ?_
      have hi5 := (gin_some h).1
      replace h := (gin_some h).2
      refine r_iald hx hb hK hw 12 0 12 (by decide) rfl rfl rfl hi5 dX2_asksForSomebody_24 ?_
      refine lv_ldc hx hb hown (hts _ kX2_asksForSomebody_c43) dX2_asksForSomebody_25 ?_
      refine lv_icmp_eq (tgt := 34) hx hb dX2_asksForSomebody_27 (by decide) (fun c6 => ?_) (fun c6 => ?_)
      · replace h := ite_t h c6
        refine lv_iconst (v := (0 : Int32)) hx hb dX2_asksForSomebody_34 (by decide) ?_
        cases h
        exact r_zret C hw rfl (by decide) (by decide) (by decide) dX2_asksForSomebody_35
      · replace h := ite_f h c6
        refine lv_iconst (v := (1 : Int32)) hx hb dX2_asksForSomebody_30 (by decide) ?_
        refine lv_goto (tgt := 35) hx hb dX2_asksForSomebody_31 (by decide) ?_
        cases h
        exact r_zret C hw rfl (by decide) (by decide) (by decide) dX2_asksForSomebody_35
theorem mX2_asksForSomebody (l : Launch) (D : va_G) (T : Nat → ClassId) (ad : Nat → Nat) (lg : Lg) (sz : Nat)   (v1 : Int32) (sg : Sg) {ro : Int32} {so : Sg} (h : fX2_asksForSomebody v1 sg = some (ro, so)) : Met l yX2_asksForSomebody wsX2_asksForSomebody rmX2_asksForSomebody (PreZ ZC D vwCl T (tysC T) ad sg lg true nwL [.ref (ad 1), .int v1] sz) (QI ZC D vwCl T (tysC T) (va_A (zwd ZC T ad sg lg) sz) (fun z => ad = z) ro so lg) 0 0 (va_A (zwd ZC T ad sg lg) sz) :=
  metZ [.ref (ad 1), .int v1] sz (by decide) rfl (Nat.le_of_ble_eq_true rfl) (fun p e s m below meth c ls C hw hl => tX2_asksForSomebody_0 C v1 sg _ _ _ hw hl h)
-- PeckYard$Muster.gatherAsking(I)V
def rmX8_gatherAsking : Room := { frames := 1, cells := 0, slots := 0, locals := 21 }
theorem kX8_gatherAsking_f15 : Cond.fieldLink RX8 15 "PeckYard$Muster" "hens" "[I" ∈ wsX8_gatherAsking := by decide +kernel
theorem kX8_gatherAsking_iX8 : ∀ w ∈ u_ws RX8 TX8 10, w ∈ wsX8_gatherAsking := by decide +kernel
theorem kX8_gatherAsking_f25 : Cond.fieldLink RX8 25 "PeckYard$Muster" "wants" "[I" ∈ wsX8_gatherAsking := by decide +kernel
theorem kX8_gatherAsking_f37 : Cond.fieldLink RX8 37 "PeckYard$Muster" "flock" "LPeckYard$Flock;" ∈ wsX8_gatherAsking := by decide +kernel
theorem kX8_gatherAsking_f22 : Cond.fieldLink RX8 22 "PeckYard$Muster" "kind" "[I" ∈ wsX8_gatherAsking := by decide +kernel
theorem kX8_gatherAsking_f28 : Cond.fieldLink RX8 28 "PeckYard$Muster" "below" "[I" ∈ wsX8_gatherAsking := by decide +kernel
theorem kX8_gatherAsking_f31 : Cond.fieldLink RX8 31 "PeckYard$Muster" "pairs" "[I" ∈ wsX8_gatherAsking := by decide +kernel
theorem kX8_gatherAsking_f19 : Cond.fieldLink RX8 19 "PeckYard$Muster" "slotOf" "[I" ∈ wsX8_gatherAsking := by decide +kernel
theorem kX8_gatherAsking_f65 : Cond.fieldLink RX8 65 "PeckYard$Flock" "asks" "[I" ∈ wsX8_gatherAsking := by decide +kernel
theorem kX8_gatherAsking_iX2 : ∀ w ∈ u_ws RX2 TX2 7, w ∈ wsX8_gatherAsking := by decide +kernel
def fX8_gatherAsking_100  (v1 : Int32) (sg : Sg) : Option (Sg) :=
  gin v1 12 ((if (sg 19 v1.toNatClampNeg) = (3 : Int32) then gin v1 12 (lt (sg 20 v1.toNatClampNeg) (fun x4 => gin x4 12 (lt ((sg 22 x4.toNatClampNeg) ||| ((1 : Int32) <<< (v1 &&& 31))) (fun x6 => gin x4 12 (lt (up2 sg 22 x4.toNatClampNeg x6) (fun sg8 => some sg8)))))) else some sg))
set_option maxHeartbeats 4000000 in
set_option maxRecDepth 100000 in
theorem tX8_gatherAsking_100 (C : Cx p s m args meth c cX8_gatherAsking 3 RX8 wsX8_gatherAsking none D vwCl (tysC T) A true nwL) {so : Sg}   : ∀ (v1 : Int32) (sg : Sg), ∀ (H : Heap) (locs : List Loc) (ls : Array Slot), WS ZC D vwCl T ad sg lg A s.heap H locs → lv_has ls 3 [(0, .ref (ad 3)), (1, .int v1)] → fX8_gatherAsking_100 v1 sg = some so → W p l e rmX8_gatherAsking s m args below meth c H locs 0 0 (MQ below (QV ZC D vwCl T (tysC T) A (fun z => ad = z) so lg) args s 0 0 A) (F0 m 100 ls []) := by
  obtain ⟨⟨hx, hb, hml, hown, hts⟩, hr, hlk, hK, hA, hsp⟩ := id C
  intro v1 sg H locs ls hw hl h
  unfold fX8_gatherAsking_100 at h
  refine lv_aload_n hx hb dX8_gatherAsking_100 rfl (lv_at hl 0 rfl) ?_
  refine r_getR (ci := 8) (C := RX8) (U := TX8) (N := 10) hx hb hts kX8_gatherAsking_iX8 hown hK hw 3 (by decide) rfl rfl 5 (by decide) 19 rfl (hts _ kX8_gatherAsking_f22) (fun _ h9 => h9) dX8_gatherAsking_101 ?_
  refine lv_iload_n hx hb dX8_gatherAsking_104 rfl (lv_at hl 1 rfl) ?_
  have hi1 := (gin_some h).1
  replace h := (gin_some h).2
  refine r_iald hx hb hK hw 19 0 12 (by decide) rfl rfl rfl hi1 dX8_gatherAsking_105 ?_
  refine lv_iconst (v := (3 : Int32)) hx hb dX8_gatherAsking_106 (by decide) ?_
  refine lv_icmp_ne (tgt := 127) hx hb dX8_gatherAsking_107 (by decide) (fun c2 => ?_) (fun c2 => ?_)
  · replace h := ite_f h c2
    cases h
    exact r_vret C hw rfl (by decide) (by decide) dX8_gatherAsking_127
  · replace h := ite_t h c2
    refine lv_aload_n hx hb dX8_gatherAsking_110 rfl (lv_at hl 0 rfl) ?_
    refine r_getR (ci := 8) (C := RX8) (U := TX8) (N := 10) hx hb hts kX8_gatherAsking_iX8 hown hK hw 3 (by decide) rfl rfl 8 (by decide) 22 rfl (hts _ kX8_gatherAsking_f31) (fun _ h9 => h9) dX8_gatherAsking_111 ?_
    refine lv_aload_n hx hb dX8_gatherAsking_114 rfl (lv_at hl 0 rfl) ?_
    refine r_getR (ci := 8) (C := RX8) (U := TX8) (N := 10) hx hb hts kX8_gatherAsking_iX8 hown hK hw 3 (by decide) rfl rfl 6 (by decide) 20 rfl (hts _ kX8_gatherAsking_f25) (fun _ h9 => h9) dX8_gatherAsking_115 ?_
    refine lv_iload_n hx hb dX8_gatherAsking_118 rfl (lv_at hl 1 rfl) ?_
    have hi3 := (gin_some h).1
    replace h := (gin_some h).2
    refine r_iald hx hb hK hw 20 0 12 (by decide) rfl rfl rfl hi3 dX8_gatherAsking_119 ?_
    refine lv_topi (fun x4 ex4 => ?_)
    replace h := lt_get h x4 ex4
    refine lv_dup2_11 hx hb dX8_gatherAsking_120 rfl rfl ?_
    have hi5 := (gin_some h).1
    replace h := (gin_some h).2
    refine r_iald hx hb hK hw 22 0 12 (by decide) rfl rfl rfl hi5 dX8_gatherAsking_121 ?_
    refine lv_iconst (v := (1 : Int32)) hx hb dX8_gatherAsking_122 (by decide) ?_
    refine lv_iload_n hx hb dX8_gatherAsking_123 rfl (lv_at hl 1 rfl) ?_
    refine lv_ishl hx hb dX8_gatherAsking_124 ?_
    refine lv_ior hx hb dX8_gatherAsking_125 ?_
    refine lv_topi (fun x6 ex6 => ?_)
    replace h := lt_get h x6 ex6
    have hi7 := (gin_some h).1
    replace h := (gin_some h).2
    refine r_iast ZC_ok hx hb hK hw 22 0 12 (by decide) rfl rfl rfl hi7 dX8_gatherAsking_126 (fun H locs sg8 esg8 hw => ?_)
    replace h := lt_get h sg8 esg8
    cases h
    exact r_vret C hw rfl (by decide) (by decide) dX8_gatherAsking_127
def fX8_gatherAsking_41  (v1 : Int32) (w0 : Int32) (w1 : Int32) (sg : Sg) : Option (Sg) :=
  gin w1 12 (lt (up2 sg 20 w1.toNatClampNeg w0) (fun sg2 => gin v1 12 ((if (sg2 20 v1.toNatClampNeg) = (-1 : Int32) then some sg2 else gin v1 12 ((if (sg2 19 v1.toNatClampNeg) = (2 : Int32) then gin v1 12 (gin v1 12 (lt ((sg2 21 v1.toNatClampNeg) ||| ((1 : Int32) <<< ((sg2 20 v1.toNatClampNeg) &&& 31))) (fun x15 => gin v1 12 (lt (up2 sg2 21 v1.toNatClampNeg x15) (fun sg17 => fX8_gatherAsking_100 v1 sg17))))) else gin v1 12 (lt (sg2 20 v1.toNatClampNeg) (fun x8 => gin x8 12 (lt ((sg2 21 x8.toNatClampNeg) ||| ((1 : Int32) <<< (v1 &&& 31))) (fun x10 => gin x8 12 (lt (up2 sg2 21 x8.toNatClampNeg x10) (fun sg12 => fX8_gatherAsking_100 v1 sg12))))))))))))
set_option maxHeartbeats 4000000 in
set_option maxRecDepth 100000 in
theorem tX8_gatherAsking_41 (C : Cx p s m args meth c cX8_gatherAsking 3 RX8 wsX8_gatherAsking none D vwCl (tysC T) A true nwL) {so : Sg}   : ∀ (v1 : Int32) (w0 : Int32) (w1 : Int32) (sg : Sg), ∀ (H : Heap) (locs : List Loc) (ls : Array Slot), WS ZC D vwCl T ad sg lg A s.heap H locs → lv_has ls 3 [(0, .ref (ad 3)), (1, .int v1)] → fX8_gatherAsking_41 v1 w0 w1 sg = some so → W p l e rmX8_gatherAsking s m args below meth c H locs 0 0 (MQ below (QV ZC D vwCl T (tysC T) A (fun z => ad = z) so lg) args s 0 0 A) (F0 m 41 ls [.int w0, .int w1, .ref (ad 20)]) := by
  obtain ⟨⟨hx, hb, hml, hown, hts⟩, hr, hlk, hK, hA, hsp⟩ := id C
  intro v1 w0 w1 sg H locs ls hw hl h
  unfold fX8_gatherAsking_41 at h
  have hi1 := (gin_some h).1
  replace h := (gin_some h).2
  refine r_iast ZC_ok hx hb hK hw 20 0 12 (by decide) rfl rfl rfl hi1 dX8_gatherAsking_41 (fun H locs sg2 esg2 hw => ?_)
  replace h := lt_get h sg2 esg2
  refine lv_aload_n hx hb dX8_gatherAsking_42 rfl (lv_at hl 0 rfl) ?_
  refine r_getR (ci := 8) (C := RX8) (U := TX8) (N := 10) hx hb hts kX8_gatherAsking_iX8 hown hK hw 3 (by decide) rfl rfl 6 (by decide) 20 rfl (hts _ kX8_gatherAsking_f25) (fun _ h9 => h9) dX8_gatherAsking_43 ?_
  refine lv_iload_n hx hb dX8_gatherAsking_46 rfl (lv_at hl 1 rfl) ?_
  have hi3 := (gin_some h).1
  replace h := (gin_some h).2
  refine r_iald hx hb hK hw 20 0 12 (by decide) rfl rfl rfl hi3 dX8_gatherAsking_47 ?_
  refine lv_iconst (v := (-1 : Int32)) hx hb dX8_gatherAsking_48 (by decide) ?_
  refine lv_icmp_ne (tgt := 53) hx hb dX8_gatherAsking_49 (by decide) (fun c4 => ?_) (fun c4 => ?_)
  · replace h := ite_f h c4
    refine lv_aload_n hx hb dX8_gatherAsking_53 rfl (lv_at hl 0 rfl) ?_
    refine r_getR (ci := 8) (C := RX8) (U := TX8) (N := 10) hx hb hts kX8_gatherAsking_iX8 hown hK hw 3 (by decide) rfl rfl 5 (by decide) 19 rfl (hts _ kX8_gatherAsking_f22) (fun _ h9 => h9) dX8_gatherAsking_54 ?_
    refine lv_iload_n hx hb dX8_gatherAsking_57 rfl (lv_at hl 1 rfl) ?_
    have hi5 := (gin_some h).1
    replace h := (gin_some h).2
    refine r_iald hx hb hK hw 19 0 12 (by decide) rfl rfl rfl hi5 dX8_gatherAsking_58 ?_
    refine lv_iconst (v := (2 : Int32)) hx hb dX8_gatherAsking_59 (by decide) ?_
    refine lv_icmp_ne (tgt := 83) hx hb dX8_gatherAsking_60 (by decide) (fun c6 => ?_) (fun c6 => ?_)
    · replace h := ite_f h c6
      refine lv_aload_n hx hb dX8_gatherAsking_83 rfl (lv_at hl 0 rfl) ?_
      refine r_getR (ci := 8) (C := RX8) (U := TX8) (N := 10) hx hb hts kX8_gatherAsking_iX8 hown hK hw 3 (by decide) rfl rfl 7 (by decide) 21 rfl (hts _ kX8_gatherAsking_f28) (fun _ h9 => h9) dX8_gatherAsking_84 ?_
      refine lv_aload_n hx hb dX8_gatherAsking_87 rfl (lv_at hl 0 rfl) ?_
      refine r_getR (ci := 8) (C := RX8) (U := TX8) (N := 10) hx hb hts kX8_gatherAsking_iX8 hown hK hw 3 (by decide) rfl rfl 6 (by decide) 20 rfl (hts _ kX8_gatherAsking_f25) (fun _ h9 => h9) dX8_gatherAsking_88 ?_
      refine lv_iload_n hx hb dX8_gatherAsking_91 rfl (lv_at hl 1 rfl) ?_
      have hi7 := (gin_some h).1
      replace h := (gin_some h).2
      refine r_iald hx hb hK hw 20 0 12 (by decide) rfl rfl rfl hi7 dX8_gatherAsking_92 ?_
      refine lv_topi (fun x8 ex8 => ?_)
      replace h := lt_get h x8 ex8
      refine lv_dup2_11 hx hb dX8_gatherAsking_93 rfl rfl ?_
      have hi9 := (gin_some h).1
      replace h := (gin_some h).2
      refine r_iald hx hb hK hw 21 0 12 (by decide) rfl rfl rfl hi9 dX8_gatherAsking_94 ?_
      refine lv_iconst (v := (1 : Int32)) hx hb dX8_gatherAsking_95 (by decide) ?_
      refine lv_iload_n hx hb dX8_gatherAsking_96 rfl (lv_at hl 1 rfl) ?_
      refine lv_ishl hx hb dX8_gatherAsking_97 ?_
      refine lv_ior hx hb dX8_gatherAsking_98 ?_
      refine lv_topi (fun x10 ex10 => ?_)
      replace h := lt_get h x10 ex10
      have hi11 := (gin_some h).1
      replace h := (gin_some h).2
      refine r_iast ZC_ok hx hb hK hw 21 0 12 (by decide) rfl rfl rfl hi11 dX8_gatherAsking_99 (fun H locs sg12 esg12 hw => ?_)
      replace h := lt_get h sg12 esg12
      exact tX8_gatherAsking_100 C v1 sg12 _ _ _ hw (lv_sub hl [0, 1] rfl) h
    · replace h := ite_t h c6
      refine lv_aload_n hx hb dX8_gatherAsking_63 rfl (lv_at hl 0 rfl) ?_
      refine r_getR (ci := 8) (C := RX8) (U := TX8) (N := 10) hx hb hts kX8_gatherAsking_iX8 hown hK hw 3 (by decide) rfl rfl 7 (by decide) 21 rfl (hts _ kX8_gatherAsking_f28) (fun _ h9 => h9) dX8_gatherAsking_64 ?_
      refine lv_iload_n hx hb dX8_gatherAsking_67 rfl (lv_at hl 1 rfl) ?_
      refine lv_dup2_11 hx hb dX8_gatherAsking_68 rfl rfl ?_
      have hi13 := (gin_some h).1
      replace h := (gin_some h).2
      refine r_iald hx hb hK hw 21 0 12 (by decide) rfl rfl rfl hi13 dX8_gatherAsking_69 ?_
      refine lv_iconst (v := (1 : Int32)) hx hb dX8_gatherAsking_70 (by decide) ?_
      refine lv_aload_n hx hb dX8_gatherAsking_71 rfl (lv_at hl 0 rfl) ?_
      refine r_getR (ci := 8) (C := RX8) (U := TX8) (N := 10) hx hb hts kX8_gatherAsking_iX8 hown hK hw 3 (by decide) rfl rfl 6 (by decide) 20 rfl (hts _ kX8_gatherAsking_f25) (fun _ h9 => h9) dX8_gatherAsking_72 ?_
      refine lv_iload_n hx hb dX8_gatherAsking_75 rfl (lv_at hl 1 rfl) ?_
      have hi14 := (gin_some h).1
      replace h := (gin_some h).2
      refine r_iald hx hb hK hw 20 0 12 (by decide) rfl rfl rfl hi14 dX8_gatherAsking_76 ?_
      refine lv_ishl hx hb dX8_gatherAsking_77 ?_
      refine lv_ior hx hb dX8_gatherAsking_78 ?_
      refine lv_topi (fun x15 ex15 => ?_)
      replace h := lt_get h x15 ex15
      have hi16 := (gin_some h).1
      replace h := (gin_some h).2
      refine r_iast ZC_ok hx hb hK hw 21 0 12 (by decide) rfl rfl rfl hi16 dX8_gatherAsking_79 (fun H locs sg17 esg17 hw => ?_)
      replace h := lt_get h sg17 esg17
      refine lv_goto (tgt := 100) hx hb dX8_gatherAsking_80 (by decide) ?_
      exact tX8_gatherAsking_100 C v1 sg17 _ _ _ hw (lv_sub hl [0, 1] rfl) h
  · replace h := ite_t h c4
    cases h
    exact r_vret C hw rfl (by decide) (by decide) dX8_gatherAsking_52
def fX8_gatherAsking  (v1 : Int32) (sg : Sg) : Option (Sg) :=
  gin v1 12 (lt (sg 17 v1.toNatClampNeg) (fun x2 => bnd2 (fX2_asksForSomebody x2 sg) (fun y3 sg4 => (if y3 = 0 then fX8_gatherAsking_41 v1 (-1 : Int32) v1 sg4 else gin x2 12 (lt (sg4 12 x2.toNatClampNeg) (fun x8 => gin x8 12 (fX8_gatherAsking_41 v1 (sg4 18 x8.toNatClampNeg) v1 sg4)))))))
set_option maxHeartbeats 4000000 in
set_option maxRecDepth 100000 in
theorem tX8_gatherAsking_0 (C : Cx p s m args meth c cX8_gatherAsking 3 RX8 wsX8_gatherAsking none D vwCl (tysC T) A true nwL) {so : Sg}   : ∀ (v1 : Int32) (sg : Sg), ∀ (H : Heap) (locs : List Loc) (ls : Array Slot), WS ZC D vwCl T ad sg lg A s.heap H locs → lv_has ls 3 [(0, .ref (ad 3)), (1, .int v1)] → fX8_gatherAsking v1 sg = some so → W p l e rmX8_gatherAsking s m args below meth c H locs 0 0 (MQ below (QV ZC D vwCl T (tysC T) A (fun z => ad = z) so lg) args s 0 0 A) (F0 m 0 ls []) := by
  obtain ⟨⟨hx, hb, hml, hown, hts⟩, hr, hlk, hK, hA, hsp⟩ := id C
  intro v1 sg H locs ls hw hl h
  unfold fX8_gatherAsking at h
  refine lv_aload_n hx hb dX8_gatherAsking_0 rfl (lv_at hl 0 rfl) ?_
  refine r_getR (ci := 8) (C := RX8) (U := TX8) (N := 10) hx hb hts kX8_gatherAsking_iX8 hown hK hw 3 (by decide) rfl rfl 3 (by decide) 17 rfl (hts _ kX8_gatherAsking_f15) (fun _ h9 => h9) dX8_gatherAsking_1 ?_
  refine lv_iload_n hx hb dX8_gatherAsking_4 rfl (lv_at hl 1 rfl) ?_
  have hi1 := (gin_some h).1
  replace h := (gin_some h).2
  refine r_iald hx hb hK hw 17 0 12 (by decide) rfl rfl rfl hi1 dX8_gatherAsking_5 ?_
  refine lv_topi (fun x2 ex2 => ?_)
  replace h := lt_get h x2 ex2
  refine lv_istore_n (lv' := [(2, .int x2), (0, .ref (ad 3)), (1, .int v1)]) hx hb dX8_gatherAsking_6 rfl hl (by decide) rfl (fun ls hl => ?_)
  refine lv_aload_n hx hb dX8_gatherAsking_7 rfl (lv_at hl 1 rfl) ?_
  refine r_getR (ci := 8) (C := RX8) (U := TX8) (N := 10) hx hb hts kX8_gatherAsking_iX8 hown hK hw 3 (by decide) rfl rfl 6 (by decide) 20 rfl (hts _ kX8_gatherAsking_f25) (fun _ h9 => h9) dX8_gatherAsking_8 ?_
  refine lv_iload_n hx hb dX8_gatherAsking_11 rfl (lv_at hl 2 rfl) ?_
  refine lv_aload_n hx hb dX8_gatherAsking_12 rfl (lv_at hl 1 rfl) ?_
  refine r_getR (ci := 8) (C := RX8) (U := TX8) (N := 10) hx hb hts kX8_gatherAsking_iX8 hown hK hw 3 (by decide) rfl rfl 0 (by decide) 1 rfl (hts _ kX8_gatherAsking_f37) (fun _ h9 => h9) dX8_gatherAsking_13 ?_
  refine lv_iload_n hx hb dX8_gatherAsking_16 rfl (lv_at hl 0 rfl) ?_
  obtain ⟨y3, sg4, hq5, h2⟩ := bnd2_some h
  replace h := h2
  clear h2
  refine r_cVi (As := [.int x2]) (rest := [.int v1, .ref (ad 20)]) C hw 1 (by decide) (ci := 2) rfl rfl (mX2_asksForSomebody l D T ad lg H.size x2 sg hq5) (cwV 1 hts gX8_gatherAsking_X2_asksForSomebody rfl rfl rfl (by decide +kernel) ⟨Nat.le_of_ble_eq_true rfl, Nat.le_of_ble_eq_true rfl⟩) rfl hl.1 rfl (Nat.le_of_ble_eq_true rfl) dX8_gatherAsking_17 ⟨Nat.le_of_ble_eq_true rfl, Nat.le_of_ble_eq_true rfl⟩ (fun ad' H locs hp hw => ?_)
  subst hp
  refine W.widen (k := 0) (n := 0) (by decide) (by decide) ?_
  refine lv_if_eq (tgt := 40) hx hb dX8_gatherAsking_20 (by decide) (fun c6 => ?_) (fun c6 => ?_)
  · replace h := ite_t h c6
    refine lv_iconst (v := (-1 : Int32)) hx hb dX8_gatherAsking_40 (by decide) ?_
    exact tX8_gatherAsking_41 C v1 (-1 : Int32) v1 sg4 _ _ _ hw (lv_sub hl [1, 2] rfl) h
  · replace h := ite_f h c6
    refine lv_aload_n hx hb dX8_gatherAsking_23 rfl (lv_at hl 1 rfl) ?_
    refine r_getR (ci := 8) (C := RX8) (U := TX8) (N := 10) hx hb hts kX8_gatherAsking_iX8 hown hK hw 3 (by decide) rfl rfl 4 (by decide) 18 rfl (hts _ kX8_gatherAsking_f19) (fun _ h9 => h9) dX8_gatherAsking_24 ?_
    refine lv_aload_n hx hb dX8_gatherAsking_27 rfl (lv_at hl 1 rfl) ?_
    refine r_getR (ci := 8) (C := RX8) (U := TX8) (N := 10) hx hb hts kX8_gatherAsking_iX8 hown hK hw 3 (by decide) rfl rfl 0 (by decide) 1 rfl (hts _ kX8_gatherAsking_f37) (fun _ h9 => h9) dX8_gatherAsking_28 ?_
    refine r_getR (ci := 2) (C := RX2) (U := TX2) (N := 7) hx hb hts kX8_gatherAsking_iX2 hown hK hw 1 (by decide) rfl rfl 3 (by decide) 12 rfl (hts _ kX8_gatherAsking_f65) (fun _ h9 => h9) dX8_gatherAsking_31 ?_
    refine lv_iload_n hx hb dX8_gatherAsking_34 rfl (lv_at hl 0 rfl) ?_
    have hi7 := (gin_some h).1
    replace h := (gin_some h).2
    refine r_iald hx hb hK hw 12 0 12 (by decide) rfl rfl rfl hi7 dX8_gatherAsking_35 ?_
    refine lv_topi (fun x8 ex8 => ?_)
    replace h := lt_get h x8 ex8
    have hi9 := (gin_some h).1
    replace h := (gin_some h).2
    refine r_iald hx hb hK hw 18 0 12 (by decide) rfl rfl rfl hi9 dX8_gatherAsking_36 ?_
    refine lv_goto (tgt := 41) hx hb dX8_gatherAsking_37 (by decide) ?_
    exact tX8_gatherAsking_41 C v1 (sg4 18 x8.toNatClampNeg) v1 sg4 _ _ _ hw (lv_sub hl [1, 2] rfl) h
theorem mX8_gatherAsking (l : Launch) (D : va_G) (T : Nat → ClassId) (ad : Nat → Nat) (lg : Lg) (sz : Nat)   (v1 : Int32) (sg : Sg) {so : Sg} (h : fX8_gatherAsking v1 sg = some so) : Met l yX8_gatherAsking wsX8_gatherAsking rmX8_gatherAsking (PreZ ZC D vwCl T (tysC T) ad sg lg true nwL [.ref (ad 3), .int v1] sz) (QV ZC D vwCl T (tysC T) (va_A (zwd ZC T ad sg lg) sz) (fun z => ad = z) so lg) 0 0 (va_A (zwd ZC T ad sg lg) sz) :=
  metZ [.ref (ad 3), .int v1] sz (by decide) rfl (Nat.le_of_ble_eq_true rfl) (fun p e s m below meth c ls C hw hl => tX8_gatherAsking_0 C v1 sg _ _ _ hw hl h)
end ZC
