section ZM
variable {p : Program} {l : Launch} {e : Env} {s : State} {m : MethodId} {args : Array Value} {below : List Frame} {meth : Method} {c : Code} {D : va_G} {T : Nat → ClassId} {A : Nat → Prop} {ad a : Nat → Nat}
-- PeckYardModel.undo()J
def rmX12_undo : Room := { frames := 0, cells := 0, slots := 0, locals := 0 }
theorem kX12_undo_f49 : Cond.fieldLink RX12 49 "PeckYardModel" "kept" "I" ∈ wsX12_undo := by decide +kernel
theorem kX12_undo_iX12 : ∀ w ∈ u_ws RX12 TX12 18, w ∈ wsX12_undo := by decide +kernel
theorem kX12_undo_f7 : Cond.fieldLink RX12 7 "PeckYardModel" "s" "[I" ∈ wsX12_undo := by decide +kernel
theorem kX12_undo_f13 : Cond.fieldLink RX12 13 "PeckYardModel" "before" "[I" ∈ wsX12_undo := by decide +kernel
theorem kX12_undo_c61 : Cond.constantLong RX12 61 (-2000000002) ∈ wsX12_undo := by decide +kernel
def fX12_undo_23 (r23 : (Int32 × Sg × Lg) → Option (Int64 × Sg × Lg)) (v1 : Int32) (sg : Sg) (lg : Lg) : Option (Int64 × Sg × Lg) :=
  (if (193 : Int32) ≤ v1 then some ((sg 0 2).toInt64, sg, lg) else lt (((193 : Int32) * (sg 0 2)) + v1) (fun x2 => gin x2 1544 (lt (sg 2 x2.toNatClampNeg) (fun x4 => gin v1 193 (lt (up2 sg 1 v1.toNatClampNeg x4) (fun sg6 => lt (v1 + (1 : Int32)) (fun x7 => r23 (x7, sg6, lg))))))))
set_option maxHeartbeats 4000000 in
set_option maxRecDepth 100000 in
theorem tX12_undo_23 (C : Cx p s m args meth c cX12_undo 2 RX12 wsX12_undo (some .long) D vwCl (tysM T) A false []) {ro : Int64} {so : Sg} {lo : Lg} {r23 : (Int32 × Sg × Lg) → Option (Int64 × Sg × Lg)} (hr23 : ∀ (v1 : Int32) (sg : Sg) (lg : Lg), r23 (v1, sg, lg) = some (ro, so, lo) → ∀ (H : Heap) (locs : List Loc) (ls : Array Slot), WS ZM D vwCl T ad sg lg A s.heap H locs → lv_has ls 2 [(0, .ref (ad 0)), (1, .int v1)] → W p l e rmX12_undo s m args below meth c H locs 0 0 (MQ below (QL ZM D vwCl T (tysM T) A (fun z => ad = z) ro so lo) args s 0 0 A) (F0 m 23 ls [])) : ∀ (v1 : Int32) (sg : Sg) (lg : Lg), ∀ (H : Heap) (locs : List Loc) (ls : Array Slot), WS ZM D vwCl T ad sg lg A s.heap H locs → lv_has ls 2 [(0, .ref (ad 0)), (1, .int v1)] → fX12_undo_23 r23 v1 sg lg = some (ro, so, lo) → W p l e rmX12_undo s m args below meth c H locs 0 0 (MQ below (QL ZM D vwCl T (tysM T) A (fun z => ad = z) ro so lo) args s 0 0 A) (F0 m 23 ls []) := by
  obtain ⟨⟨hx, hb, hml, hown, hts⟩, hr, hlk, hK, hA, hsp⟩ := id C
  intro v1 sg lg H locs ls hw hl h
  unfold fX12_undo_23 at h
  refine lv_iload_n hx hb dX12_undo_23 rfl (lv_at hl 1 rfl) ?_
  refine lv_sipush (v := (193 : Int32)) hx hb dX12_undo_24 (by decide) ?_
  refine lv_icmp_ge (tgt := 57) hx hb dX12_undo_27 (by decide) (fun c1 => ?_) (fun c1 => ?_)
  · replace h := ite_t h c1
    refine lv_aload_n hx hb dX12_undo_57 rfl (lv_at hl 0 rfl) ?_
    refine r_getI (ci := 12) (C := RX12) (U := TX12) (N := 18) hx hb hts kX12_undo_iX12 hown hK hw 0 (by decide) rfl rfl 2 (by decide) rfl (hts _ kX12_undo_f49) (fun _ h9 => h9) dX12_undo_58 ?_
    refine lv_i2l (v := (sg 0 2).toInt64) hx hb dX12_undo_61 rfl ?_
    cases h
    exact r_lret C hw rfl (by decide) (by decide) dX12_undo_62
  · replace h := ite_f h c1
    refine lv_aload_n hx hb dX12_undo_30 rfl (lv_at hl 0 rfl) ?_
    refine r_getR (ci := 12) (C := RX12) (U := TX12) (N := 18) hx hb hts kX12_undo_iX12 hown hK hw 0 (by decide) rfl rfl 0 (by decide) 1 rfl (hts _ kX12_undo_f7) (fun _ h9 => h9) dX12_undo_31 ?_
    refine lv_iload_n hx hb dX12_undo_34 rfl (lv_at hl 1 rfl) ?_
    refine lv_aload_n hx hb dX12_undo_35 rfl (lv_at hl 0 rfl) ?_
    refine r_getR (ci := 12) (C := RX12) (U := TX12) (N := 18) hx hb hts kX12_undo_iX12 hown hK hw 0 (by decide) rfl rfl 1 (by decide) 2 rfl (hts _ kX12_undo_f13) (fun _ h9 => h9) dX12_undo_36 ?_
    refine lv_sipush (v := (193 : Int32)) hx hb dX12_undo_39 (by decide) ?_
    refine lv_aload_n hx hb dX12_undo_42 rfl (lv_at hl 0 rfl) ?_
    refine r_getI (ci := 12) (C := RX12) (U := TX12) (N := 18) hx hb hts kX12_undo_iX12 hown hK hw 0 (by decide) rfl rfl 2 (by decide) rfl (hts _ kX12_undo_f49) (fun _ h9 => h9) dX12_undo_43 ?_
    refine lv_imul hx hb dX12_undo_46 ?_
    refine lv_iload_n hx hb dX12_undo_47 rfl (lv_at hl 1 rfl) ?_
    refine lv_iadd hx hb dX12_undo_48 ?_
    refine lv_topi (fun x2 ex2 => ?_)
    replace h := lt_get h x2 ex2
    have hi3 := (gin_some h).1
    replace h := (gin_some h).2
    refine r_iald hx hb hK hw 2 0 1544 (by decide) rfl rfl rfl hi3 dX12_undo_49 ?_
    refine lv_topi (fun x4 ex4 => ?_)
    replace h := lt_get h x4 ex4
    have hi5 := (gin_some h).1
    replace h := (gin_some h).2
    refine r_iast ZM_ok hx hb hK hw 1 0 193 (by decide) rfl rfl rfl hi5 dX12_undo_50 (fun H locs sg6 esg6 hw => ?_)
    replace h := lt_get h sg6 esg6
    obtain ⟨x7, ex7⟩ : ∃ z : Int32, z = (v1 + (1 : Int32)) := ⟨_, rfl⟩
    replace h := lt_get h x7 ex7
    refine lv_iinc (v := x7) (lv' := [(1, .int x7), (0, .ref (ad 0))]) hx hb dX12_undo_51 hl (k := 1) rfl (by rw [ex7]; rfl) (by decide) rfl (fun ls hl => ?_)
    refine lv_goto (tgt := 23) hx hb dX12_undo_54 (by decide) ?_
    exact hr23 x7 sg6 lg h _ _ _ hw (lv_sub hl [1, 0] rfl)
def LX12_undo_23  : (Int32 × Sg × Lg) → Option (Int64 × Sg × Lg) := loop (fun rec z => fX12_undo_23 rec z.1 z.2.1 z.2.2)
theorem TX12_undo_23 (C : Cx p s m args meth c cX12_undo 2 RX12 wsX12_undo (some .long) D vwCl (tysM T) A false []) {ro : Int64} {so : Sg} {lo : Lg}   : ∀ (v1 : Int32) (sg : Sg) (lg : Lg), LX12_undo_23 (v1, sg, lg) = some (ro, so, lo) → ∀ (H : Heap) (locs : List Loc) (ls : Array Slot), WS ZM D vwCl T ad sg lg A s.heap H locs → lv_has ls 2 [(0, .ref (ad 0)), (1, .int v1)] → W p l e rmX12_undo s m args below meth c H locs 0 0 (MQ below (QL ZM D vwCl T (tysM T) A (fun z => ad = z) ro so lo) args s 0 0 A) (F0 m 23 ls []) := by
  have key : ∀ z : (Int32 × Sg × Lg), LX12_undo_23  z = some (ro, so, lo) → ∀ (H : Heap) (locs : List Loc) (ls : Array Slot), WS ZM D vwCl T ad z.2.1 z.2.2 A s.heap H locs → lv_has ls 2 [(0, .ref (ad 0)), (1, .int z.1)] → W p l e rmX12_undo s m args below meth c H locs 0 0 (MQ below (QL ZM D vwCl T (tysM T) A (fun z => ad = z) ro so lo) args s 0 0 A) (F0 m 23 ls []) := by
    intro z h
    unfold LX12_undo_23 at h
    exact loop_ind (fun rec z => fX12_undo_23 rec z.1 z.2.1 z.2.2) (y := (ro, so, lo)) (P := fun z => ∀ (H : Heap) (locs : List Loc) (ls : Array Slot), WS ZM D vwCl T ad z.2.1 z.2.2 A s.heap H locs → lv_has ls 2 [(0, .ref (ad 0)), (1, .int z.1)] → W p l e rmX12_undo s m args below meth c H locs 0 0 (MQ below (QL ZM D vwCl T (tysM T) A (fun z => ad = z) ro so lo) args s 0 0 A) (F0 m 23 ls [])) (fun rec hrec z h H locs ls hw hl => tX12_undo_23 C  (fun v1 sg lg => hrec (v1, sg, lg)) z.1 z.2.1 z.2.2 H locs ls hw hl h) z h
  exact fun v1 sg lg => key (v1, sg, lg)
def fX12_undo  (sg : Sg) (lg : Lg) : Option (Int64 × Sg × Lg) :=
  (if (sg 0 2) = 0 then some ((-2000000002 : Int64), sg, lg) else lt ((sg 0 2) - (1 : Int32)) (fun x2 => lt (up2 sg 0 2 x2) (fun sg3 => LX12_undo_23 ((0 : Int32), sg3, lg))))
set_option maxHeartbeats 4000000 in
set_option maxRecDepth 100000 in
theorem tX12_undo_0 (C : Cx p s m args meth c cX12_undo 2 RX12 wsX12_undo (some .long) D vwCl (tysM T) A false []) {ro : Int64} {so : Sg} {lo : Lg}   : ∀ (sg : Sg) (lg : Lg), ∀ (H : Heap) (locs : List Loc) (ls : Array Slot), WS ZM D vwCl T ad sg lg A s.heap H locs → lv_has ls 2 [(0, .ref (ad 0))] → fX12_undo sg lg = some (ro, so, lo) → W p l e rmX12_undo s m args below meth c H locs 0 0 (MQ below (QL ZM D vwCl T (tysM T) A (fun z => ad = z) ro so lo) args s 0 0 A) (F0 m 0 ls []) := by
  obtain ⟨⟨hx, hb, hml, hown, hts⟩, hr, hlk, hK, hA, hsp⟩ := id C
  intro sg lg H locs ls hw hl h
  unfold fX12_undo at h
  refine lv_aload_n hx hb dX12_undo_0 rfl (lv_at hl 0 rfl) ?_
  refine r_getI (ci := 12) (C := RX12) (U := TX12) (N := 18) hx hb hts kX12_undo_iX12 hown hK hw 0 (by decide) rfl rfl 2 (by decide) rfl (hts _ kX12_undo_f49) (fun _ h9 => h9) dX12_undo_1 ?_
  refine lv_if_ne (tgt := 11) hx hb dX12_undo_4 (by decide) (fun c1 => ?_) (fun c1 => ?_)
  · replace h := ite_f h c1
    refine lv_aload_n hx hb dX12_undo_11 rfl (lv_at hl 0 rfl) ?_
    refine lv_dup hx hb dX12_undo_12 rfl ?_
    refine r_getI (ci := 12) (C := RX12) (U := TX12) (N := 18) hx hb hts kX12_undo_iX12 hown hK hw 0 (by decide) rfl rfl 2 (by decide) rfl (hts _ kX12_undo_f49) (fun _ h9 => h9) dX12_undo_13 ?_
    refine lv_iconst (v := (1 : Int32)) hx hb dX12_undo_16 (by decide) ?_
    refine lv_isub hx hb dX12_undo_17 ?_
    refine lv_topi (fun x2 ex2 => ?_)
    replace h := lt_get h x2 ex2
    refine r_putI ZM_ok (ci := 12) (C := RX12) (U := TX12) (N := 18) (ty := .int) hx hb hts kX12_undo_iX12 tyX12 tyX12_ok nmX12 hown hK hw 0 (by decide) rfl rfl 2 (by decide) rfl (hts _ kX12_undo_f49) (fun _ h9 => h9) rfl (by decide +kernel) rfl rfl dX12_undo_18 (fun H locs sg3 esg3 hw => ?_)
    replace h := lt_get h sg3 esg3
    refine lv_iconst (v := (0 : Int32)) hx hb dX12_undo_21 (by decide) ?_
    refine lv_istore_n (lv' := [(1, .int (0 : Int32)), (0, .ref (ad 0))]) hx hb dX12_undo_22 rfl hl (by decide) rfl (fun ls hl => ?_)
    exact TX12_undo_23 C (0 : Int32) sg3 lg h _ _ _ hw (lv_sub hl [1, 0] rfl)
  · replace h := ite_t h c1
    refine lv_ldc2 hx hb hown (hts _ kX12_undo_c61) dX12_undo_7 ?_
    cases h
    exact r_lret C hw rfl (by decide) (by decide) dX12_undo_10
theorem mX12_undo (l : Launch) (D : va_G) (T : Nat → ClassId) (ad : Nat → Nat)  (sz : Nat)   (sg : Sg) (lg : Lg) {ro : Int64} {so : Sg} {lo : Lg} (h : fX12_undo sg lg = some (ro, so, lo)) : Met l yX12_undo wsX12_undo rmX12_undo (PreZ ZM D vwCl T (tysM T) ad sg lg false [] [.ref (ad 0)] sz) (QL ZM D vwCl T (tysM T) (va_A (zwd ZM T ad sg lg) sz) (fun z => ad = z) ro so lo) 0 0 (va_A (zwd ZM T ad sg lg) sz) :=
  metZ [.ref (ad 0)] sz (by decide) rfl (Nat.le_of_ble_eq_true rfl) (fun p e s m below meth c ls C hw hl => tX12_undo_0 C sg lg _ _ _ hw hl h)
-- PeckYardModel.hens()I
def rmX12_hens : Room := { frames := 0, cells := 0, slots := 0, locals := 0 }
theorem kX12_hens_f7 : Cond.fieldLink RX12 7 "PeckYardModel" "s" "[I" ∈ wsX12_hens := by decide +kernel
theorem kX12_hens_iX12 : ∀ w ∈ u_ws RX12 TX12 18, w ∈ wsX12_hens := by decide +kernel
def fX12_hens  (sg : Sg) (lg : Lg) : Option (Int32 × Sg × Lg) :=
  gin (0 : Int32) 193 (some ((sg 1 (0 : Int32).toNatClampNeg), sg, lg))
set_option maxHeartbeats 4000000 in
set_option maxRecDepth 100000 in
theorem tX12_hens_0 (C : Cx p s m args meth c cX12_hens 1 RX12 wsX12_hens (some .int) D vwCl (tysM T) A false []) {ro : Int32} {so : Sg} {lo : Lg}   : ∀ (sg : Sg) (lg : Lg), ∀ (H : Heap) (locs : List Loc) (ls : Array Slot), WS ZM D vwCl T ad sg lg A s.heap H locs → lv_has ls 1 [(0, .ref (ad 0))] → fX12_hens sg lg = some (ro, so, lo) → W p l e rmX12_hens s m args below meth c H locs 0 0 (MQ below (QI ZM D vwCl T (tysM T) A (fun z => ad = z) ro so lo) args s 0 0 A) (F0 m 0 ls []) := by
  obtain ⟨⟨hx, hb, hml, hown, hts⟩, hr, hlk, hK, hA, hsp⟩ := id C
  intro sg lg H locs ls hw hl h
  unfold fX12_hens at h
  refine lv_aload_n hx hb dX12_hens_0 rfl (lv_at hl 0 rfl) ?_
  refine r_getR (ci := 12) (C := RX12) (U := TX12) (N := 18) hx hb hts kX12_hens_iX12 hown hK hw 0 (by decide) rfl rfl 0 (by decide) 1 rfl (hts _ kX12_hens_f7) (fun _ h9 => h9) dX12_hens_1 ?_
  refine lv_iconst (v := (0 : Int32)) hx hb dX12_hens_4 (by decide) ?_
  have hi1 := (gin_some h).1
  replace h := (gin_some h).2
  refine r_iald hx hb hK hw 1 0 193 (by decide) rfl rfl rfl hi1 dX12_hens_5 ?_
  cases h
  exact r_iret C hw rfl (by decide) (by decide) dX12_hens_6
theorem mX12_hens (l : Launch) (D : va_G) (T : Nat → ClassId) (ad : Nat → Nat)  (sz : Nat)   (sg : Sg) (lg : Lg) {ro : Int32} {so : Sg} {lo : Lg} (h : fX12_hens sg lg = some (ro, so, lo)) : Met l yX12_hens wsX12_hens rmX12_hens (PreZ ZM D vwCl T (tysM T) ad sg lg false [] [.ref (ad 0)] sz) (QI ZM D vwCl T (tysM T) (va_A (zwd ZM T ad sg lg) sz) (fun z => ad = z) ro so lo) 0 0 (va_A (zwd ZM T ad sg lg) sz) :=
  metZ [.ref (ad 0)] sz (by decide) rfl (Nat.le_of_ble_eq_true rfl) (fun p e s m below meth c ls C hw hl => tX12_hens_0 C sg lg _ _ _ hw hl h)
-- PeckYardModel.isIn(JJJ)Z
def rmX12_isIn : Room := { frames := 0, cells := 0, slots := 0, locals := 0 }
def fX12_isIn  (v0 : Int64) (v2 : Int64) (v4 : Int64) (sg : Sg) (lg : Lg) : Option (Int32 × Sg × Lg) :=
  (if v0 < v2 then some ((0 : Int32), sg, lg) else (if v4 < v0 then some ((0 : Int32), sg, lg) else some ((1 : Int32), sg, lg)))
set_option maxHeartbeats 4000000 in
set_option maxRecDepth 100000 in
theorem tX12_isIn_0 (C : Cx p s m args meth c cX12_isIn 6 RX12 wsX12_isIn (some .boolean) D vwCl (tysM T) A false []) {ro : Int32} {so : Sg} {lo : Lg}   : ∀ (v0 : Int64) (v2 : Int64) (v4 : Int64) (sg : Sg) (lg : Lg), ∀ (H : Heap) (locs : List Loc) (ls : Array Slot), WS ZM D vwCl T ad sg lg A s.heap H locs → lv_has ls 6 [(0, .long v0), (2, .long v2), (4, .long v4)] → fX12_isIn v0 v2 v4 sg lg = some (ro, so, lo) → W p l e rmX12_isIn s m args below meth c H locs 0 0 (MQ below (QI ZM D vwCl T (tysM T) A (fun z => ad = z) ro so lo) args s 0 0 A) (F0 m 0 ls []) := by
  obtain ⟨⟨hx, hb, hml, hown, hts⟩, hr, hlk, hK, hA, hsp⟩ := id C
  intro v0 v2 v4 sg lg H locs ls hw hl h
  unfold fX12_isIn at h
  refine lv_lload_n hx hb dX12_isIn_0 rfl (lv_at hl 0 rfl) ?_
  refine lv_lload_n hx hb dX12_isIn_1 rfl (lv_at hl 1 rfl) ?_
  refine W.lcmp hx hb dX12_isIn_2 ?_
  refine lv_if_lt (tgt := 17) hx hb dX12_isIn_3 (by decide) (fun c1 => ?_) (fun c1 => ?_)
  · replace h := ite_t h ((lg_cmp_lt _ _).mp c1)
    refine lv_iconst (v := (0 : Int32)) hx hb dX12_isIn_17 (by decide) ?_
    cases h
    exact r_zret C hw rfl (by decide) (by decide) (by decide) dX12_isIn_18
  · replace h := ite_f h (fun z => c1 ((lg_cmp_lt _ _).mpr z))
    refine lv_lload_n hx hb dX12_isIn_6 rfl (lv_at hl 0 rfl) ?_
    refine lv_lload hx hb dX12_isIn_7 (lv_at hl 2 rfl) ?_
    refine W.lcmp hx hb dX12_isIn_9 ?_
    refine lv_if_gt (tgt := 17) hx hb dX12_isIn_10 (by decide) (fun c2 => ?_) (fun c2 => ?_)
    · replace h := ite_t h ((lg_cmp_gt _ _).mp c2)
      refine lv_iconst (v := (0 : Int32)) hx hb dX12_isIn_17 (by decide) ?_
      cases h
      exact r_zret C hw rfl (by decide) (by decide) (by decide) dX12_isIn_18
    · replace h := ite_f h (fun z => c2 ((lg_cmp_gt _ _).mpr z))
      refine lv_iconst (v := (1 : Int32)) hx hb dX12_isIn_13 (by decide) ?_
      refine lv_goto (tgt := 18) hx hb dX12_isIn_14 (by decide) ?_
      cases h
      exact r_zret C hw rfl (by decide) (by decide) (by decide) dX12_isIn_18
theorem mX12_isIn (l : Launch) (D : va_G) (T : Nat → ClassId) (ad : Nat → Nat)  (sz : Nat)   (v0 : Int64) (v2 : Int64) (v4 : Int64) (sg : Sg) (lg : Lg) {ro : Int32} {so : Sg} {lo : Lg} (h : fX12_isIn v0 v2 v4 sg lg = some (ro, so, lo)) : Met l yX12_isIn wsX12_isIn rmX12_isIn (PreZ ZM D vwCl T (tysM T) ad sg lg false [] [.long v0, .long v2, .long v4] sz) (QI ZM D vwCl T (tysM T) (va_A (zwd ZM T ad sg lg) sz) (fun z => ad = z) ro so lo) 0 0 (va_A (zwd ZM T ad sg lg) sz) :=
  metZ [.long v0, .long v2, .long v4] sz (by decide) rfl (Nat.le_of_ble_eq_true rfl) (fun p e s m below meth c ls C hw hl => tX12_isIn_0 C v0 v2 v4 sg lg _ _ _ hw hl h)
-- PeckYardModel.mayAsk(II)Z
def rmX12_mayAsk : Room := { frames := 1, cells := 0, slots := 0, locals := 25 }
theorem kX12_mayAsk_c63 : Cond.constant RX12 63 (-2000000005) ∈ wsX12_mayAsk := by decide +kernel
theorem kX12_mayAsk_c64 : Cond.constantLong RX12 64 (11) ∈ wsX12_mayAsk := by decide +kernel
def fX12_mayAsk  (v0 : Int32) (v1 : Int32) (sg : Sg) (lg : Lg) : Option (Int32 × Sg × Lg) :=
  (if v1 = (-2000000005 : Int32) then some ((1 : Int32), sg, lg) else bnd3 (fX12_isIn v1.toInt64 (0 : Int64) (11 : Int64) sg lg) (fun y2 sg3 lg4 => (if y2 = 0 then some ((0 : Int32), sg3, lg4) else (if v1 = v0 then some ((0 : Int32), sg3, lg4) else some ((1 : Int32), sg3, lg4)))))
set_option maxHeartbeats 4000000 in
set_option maxRecDepth 100000 in
theorem tX12_mayAsk_0 (C : Cx p s m args meth c cX12_mayAsk 2 RX12 wsX12_mayAsk (some .boolean) D vwCl (tysM T) A false []) {ro : Int32} {so : Sg} {lo : Lg}   : ∀ (v0 : Int32) (v1 : Int32) (sg : Sg) (lg : Lg), ∀ (H : Heap) (locs : List Loc) (ls : Array Slot), WS ZM D vwCl T ad sg lg A s.heap H locs → lv_has ls 2 [(0, .int v0), (1, .int v1)] → fX12_mayAsk v0 v1 sg lg = some (ro, so, lo) → W p l e rmX12_mayAsk s m args below meth c H locs 0 0 (MQ below (QI ZM D vwCl T (tysM T) A (fun z => ad = z) ro so lo) args s 0 0 A) (F0 m 0 ls []) := by
  obtain ⟨⟨hx, hb, hml, hown, hts⟩, hr, hlk, hK, hA, hsp⟩ := id C
  intro v0 v1 sg lg H locs ls hw hl h
  unfold fX12_mayAsk at h
  refine lv_iload_n hx hb dX12_mayAsk_0 rfl (lv_at hl 1 rfl) ?_
  refine lv_ldc hx hb hown (hts _ kX12_mayAsk_c63) dX12_mayAsk_1 ?_
  refine lv_icmp_eq (tgt := 23) hx hb dX12_mayAsk_3 (by decide) (fun c1 => ?_) (fun c1 => ?_)
  · replace h := ite_t h c1
    refine lv_iconst (v := (1 : Int32)) hx hb dX12_mayAsk_23 (by decide) ?_
    refine lv_goto (tgt := 28) hx hb dX12_mayAsk_24 (by decide) ?_
    cases h
    exact r_zret C hw rfl (by decide) (by decide) (by decide) dX12_mayAsk_28
  · replace h := ite_f h c1
    refine lv_iload_n hx hb dX12_mayAsk_6 rfl (lv_at hl 1 rfl) ?_
    refine lv_i2l (v := v1.toInt64) hx hb dX12_mayAsk_7 rfl ?_
    refine lv_lconst (v := (0 : Int64)) hx hb dX12_mayAsk_8 (by decide) ?_
    refine lv_ldc2 hx hb hown (hts _ kX12_mayAsk_c64) dX12_mayAsk_9 ?_
    obtain ⟨y2, sg3, lg4, hq5, h2⟩ := bnd3_some h
    replace h := h2
    clear h2
    refine r_cSi (As := [.long v1.toInt64, .long (0 : Int64), .long (11 : Int64)]) (rest := []) C hw (mX12_isIn l D T ad  H.size v1.toInt64 (0 : Int64) (11 : Int64) sg lg hq5) (va_cwS 3 hts gX12_mayAsk_X12_isIn rfl rfl rfl (by decide +kernel) ⟨Nat.le_of_ble_eq_true rfl, Nat.le_of_ble_eq_true rfl⟩) rfl hl.1 rfl (Nat.le_of_ble_eq_true rfl) dX12_mayAsk_12 ⟨Nat.le_of_ble_eq_true rfl, Nat.le_of_ble_eq_true rfl⟩ (fun ad' H locs hp hw => ?_)
    subst hp
    refine W.widen (k := 0) (n := 0) (by decide) (by decide) ?_
    refine lv_if_eq (tgt := 27) hx hb dX12_mayAsk_15 (by decide) (fun c6 => ?_) (fun c6 => ?_)
    · replace h := ite_t h c6
      refine lv_iconst (v := (0 : Int32)) hx hb dX12_mayAsk_27 (by decide) ?_
      cases h
      exact r_zret C hw rfl (by decide) (by decide) (by decide) dX12_mayAsk_28
    · replace h := ite_f h c6
      refine lv_iload_n hx hb dX12_mayAsk_18 rfl (lv_at hl 1 rfl) ?_
      refine lv_iload_n hx hb dX12_mayAsk_19 rfl (lv_at hl 0 rfl) ?_
      refine lv_icmp_eq (tgt := 27) hx hb dX12_mayAsk_20 (by decide) (fun c7 => ?_) (fun c7 => ?_)
      · replace h := ite_t h c7
        refine lv_iconst (v := (0 : Int32)) hx hb dX12_mayAsk_27 (by decide) ?_
        cases h
        exact r_zret C hw rfl (by decide) (by decide) (by decide) dX12_mayAsk_28
      · replace h := ite_f h c7
        refine lv_iconst (v := (1 : Int32)) hx hb dX12_mayAsk_23 (by decide) ?_
        refine lv_goto (tgt := 28) hx hb dX12_mayAsk_24 (by decide) ?_
        cases h
        exact r_zret C hw rfl (by decide) (by decide) (by decide) dX12_mayAsk_28
theorem mX12_mayAsk (l : Launch) (D : va_G) (T : Nat → ClassId) (ad : Nat → Nat)  (sz : Nat)   (v0 : Int32) (v1 : Int32) (sg : Sg) (lg : Lg) {ro : Int32} {so : Sg} {lo : Lg} (h : fX12_mayAsk v0 v1 sg lg = some (ro, so, lo)) : Met l yX12_mayAsk wsX12_mayAsk rmX12_mayAsk (PreZ ZM D vwCl T (tysM T) ad sg lg false [] [.int v0, .int v1] sz) (QI ZM D vwCl T (tysM T) (va_A (zwd ZM T ad sg lg) sz) (fun z => ad = z) ro so lo) 0 0 (va_A (zwd ZM T ad sg lg) sz) :=
  metZ [.int v0, .int v1] sz (by decide) rfl (Nat.le_of_ble_eq_true rfl) (fun p e s m below meth c ls C hw hl => tX12_mayAsk_0 C v0 v1 sg lg _ _ _ hw hl h)
-- PeckYardModel.keep()V
def rmX12_keep : Room := { frames := 0, cells := 0, slots := 0, locals := 0 }
theorem kX12_keep_f49 : Cond.fieldLink RX12 49 "PeckYardModel" "kept" "I" ∈ wsX12_keep := by decide +kernel
theorem kX12_keep_iX12 : ∀ w ∈ u_ws RX12 TX12 18, w ∈ wsX12_keep := by decide +kernel
theorem kX12_keep_f13 : Cond.fieldLink RX12 13 "PeckYardModel" "before" "[I" ∈ wsX12_keep := by decide +kernel
theorem kX12_keep_f7 : Cond.fieldLink RX12 7 "PeckYardModel" "s" "[I" ∈ wsX12_keep := by decide +kernel
def fX12_keep_52 (r52 : (Int32 × Sg × Lg) → Option (Sg × Lg)) (v1 : Int32) (sg : Sg) (lg : Lg) : Option (Sg × Lg) :=
  (if (193 : Int32) ≤ v1 then lt ((sg 0 2) + (1 : Int32)) (fun x2 => lt (up2 sg 0 2 x2) (fun sg3 => some (sg3, lg))) else gin v1 193 (lt (sg 1 v1.toNatClampNeg) (fun x5 => gin (((193 : Int32) * (sg 0 2)) + v1) 1544 (lt (up2 sg 2 (((193 : Int32) * (sg 0 2)) + v1).toNatClampNeg x5) (fun sg7 => lt (v1 + (1 : Int32)) (fun x8 => r52 (x8, sg7, lg)))))))
set_option maxHeartbeats 4000000 in
set_option maxRecDepth 100000 in
theorem tX12_keep_52 (C : Cx p s m args meth c cX12_keep 2 RX12 wsX12_keep none D vwCl (tysM T) A false []) {so : Sg} {lo : Lg} {r52 : (Int32 × Sg × Lg) → Option (Sg × Lg)} (hr52 : ∀ (v1 : Int32) (sg : Sg) (lg : Lg), r52 (v1, sg, lg) = some (so, lo) → ∀ (H : Heap) (locs : List Loc) (ls : Array Slot), WS ZM D vwCl T ad sg lg A s.heap H locs → lv_has ls 2 [(0, .ref (ad 0)), (1, .int v1)] → W p l e rmX12_keep s m args below meth c H locs 0 0 (MQ below (QV ZM D vwCl T (tysM T) A (fun z => ad = z) so lo) args s 0 0 A) (F0 m 52 ls [])) : ∀ (v1 : Int32) (sg : Sg) (lg : Lg), ∀ (H : Heap) (locs : List Loc) (ls : Array Slot), WS ZM D vwCl T ad sg lg A s.heap H locs → lv_has ls 2 [(0, .ref (ad 0)), (1, .int v1)] → fX12_keep_52 r52 v1 sg lg = some (so, lo) → W p l e rmX12_keep s m args below meth c H locs 0 0 (MQ below (QV ZM D vwCl T (tysM T) A (fun z => ad = z) so lo) args s 0 0 A) (F0 m 52 ls []) := by
  obtain ⟨⟨hx, hb, hml, hown, hts⟩, hr, hlk, hK, hA, hsp⟩ := id C
  intro v1 sg lg H locs ls hw hl h
  unfold fX12_keep_52 at h
  refine lv_iload_n hx hb dX12_keep_52 rfl (lv_at hl 1 rfl) ?_
  refine lv_sipush (v := (193 : Int32)) hx hb dX12_keep_53 (by decide) ?_
  refine lv_icmp_ge (tgt := 86) hx hb dX12_keep_56 (by decide) (fun c1 => ?_) (fun c1 => ?_)
  · replace h := ite_t h c1
    refine lv_aload_n hx hb dX12_keep_86 rfl (lv_at hl 0 rfl) ?_
    refine lv_dup hx hb dX12_keep_87 rfl ?_
    refine r_getI (ci := 12) (C := RX12) (U := TX12) (N := 18) hx hb hts kX12_keep_iX12 hown hK hw 0 (by decide) rfl rfl 2 (by decide) rfl (hts _ kX12_keep_f49) (fun _ h9 => h9) dX12_keep_88 ?_
    refine lv_iconst (v := (1 : Int32)) hx hb dX12_keep_91 (by decide) ?_
    refine lv_iadd hx hb dX12_keep_92 ?_
    refine lv_topi (fun x2 ex2 => ?_)
    replace h := lt_get h x2 ex2
    refine r_putI ZM_ok (ci := 12) (C := RX12) (U := TX12) (N := 18) (ty := .int) hx hb hts kX12_keep_iX12 tyX12 tyX12_ok nmX12 hown hK hw 0 (by decide) rfl rfl 2 (by decide) rfl (hts _ kX12_keep_f49) (fun _ h9 => h9) rfl (by decide +kernel) rfl rfl dX12_keep_93 (fun H locs sg3 esg3 hw => ?_)
    replace h := lt_get h sg3 esg3
    cases h
    exact r_vret C hw rfl (by decide) (by decide) dX12_keep_96
  · replace h := ite_f h c1
    refine lv_aload_n hx hb dX12_keep_59 rfl (lv_at hl 0 rfl) ?_
    refine r_getR (ci := 12) (C := RX12) (U := TX12) (N := 18) hx hb hts kX12_keep_iX12 hown hK hw 0 (by decide) rfl rfl 1 (by decide) 2 rfl (hts _ kX12_keep_f13) (fun _ h9 => h9) dX12_keep_60 ?_
    refine lv_sipush (v := (193 : Int32)) hx hb dX12_keep_63 (by decide) ?_
    refine lv_aload_n hx hb dX12_keep_66 rfl (lv_at hl 0 rfl) ?_
    refine r_getI (ci := 12) (C := RX12) (U := TX12) (N := 18) hx hb hts kX12_keep_iX12 hown hK hw 0 (by decide) rfl rfl 2 (by decide) rfl (hts _ kX12_keep_f49) (fun _ h9 => h9) dX12_keep_67 ?_
    refine lv_imul hx hb dX12_keep_70 ?_
    refine lv_iload_n hx hb dX12_keep_71 rfl (lv_at hl 1 rfl) ?_
    refine lv_iadd hx hb dX12_keep_72 ?_
    refine lv_aload_n hx hb dX12_keep_73 rfl (lv_at hl 0 rfl) ?_
    refine r_getR (ci := 12) (C := RX12) (U := TX12) (N := 18) hx hb hts kX12_keep_iX12 hown hK hw 0 (by decide) rfl rfl 0 (by decide) 1 rfl (hts _ kX12_keep_f7) (fun _ h9 => h9) dX12_keep_74 ?_
    refine lv_iload_n hx hb dX12_keep_77 rfl (lv_at hl 1 rfl) ?_
    have hi4 := (gin_some h).1
    replace h := (gin_some h).2
    refine r_iald hx hb hK hw 1 0 193 (by decide) rfl rfl rfl hi4 dX12_keep_78 ?_
    refine lv_topi (fun x5 ex5 => ?_)
    replace h := lt_get h x5 ex5
    have hi6 := (gin_some h).1
    replace h := (gin_some h).2
    refine r_iast ZM_ok hx hb hK hw 2 0 1544 (by decide) rfl rfl rfl hi6 dX12_keep_79 (fun H locs sg7 esg7 hw => ?_)
    replace h := lt_get h sg7 esg7
    obtain ⟨x8, ex8⟩ : ∃ z : Int32, z = (v1 + (1 : Int32)) := ⟨_, rfl⟩
    replace h := lt_get h x8 ex8
    refine lv_iinc (v := x8) (lv' := [(1, .int x8), (0, .ref (ad 0))]) hx hb dX12_keep_80 hl (k := 1) rfl (by rw [ex8]; rfl) (by decide) rfl (fun ls hl => ?_)
    refine lv_goto (tgt := 52) hx hb dX12_keep_83 (by decide) ?_
    exact hr52 x8 sg7 lg h _ _ _ hw (lv_sub hl [1, 0] rfl)
def LX12_keep_52  : (Int32 × Sg × Lg) → Option (Sg × Lg) := loop (fun rec z => fX12_keep_52 rec z.1 z.2.1 z.2.2)
theorem TX12_keep_52 (C : Cx p s m args meth c cX12_keep 2 RX12 wsX12_keep none D vwCl (tysM T) A false []) {so : Sg} {lo : Lg}   : ∀ (v1 : Int32) (sg : Sg) (lg : Lg), LX12_keep_52 (v1, sg, lg) = some (so, lo) → ∀ (H : Heap) (locs : List Loc) (ls : Array Slot), WS ZM D vwCl T ad sg lg A s.heap H locs → lv_has ls 2 [(0, .ref (ad 0)), (1, .int v1)] → W p l e rmX12_keep s m args below meth c H locs 0 0 (MQ below (QV ZM D vwCl T (tysM T) A (fun z => ad = z) so lo) args s 0 0 A) (F0 m 52 ls []) := by
  have key : ∀ z : (Int32 × Sg × Lg), LX12_keep_52  z = some (so, lo) → ∀ (H : Heap) (locs : List Loc) (ls : Array Slot), WS ZM D vwCl T ad z.2.1 z.2.2 A s.heap H locs → lv_has ls 2 [(0, .ref (ad 0)), (1, .int z.1)] → W p l e rmX12_keep s m args below meth c H locs 0 0 (MQ below (QV ZM D vwCl T (tysM T) A (fun z => ad = z) so lo) args s 0 0 A) (F0 m 52 ls []) := by
    intro z h
    unfold LX12_keep_52 at h
    exact loop_ind (fun rec z => fX12_keep_52 rec z.1 z.2.1 z.2.2) (y := (so, lo)) (P := fun z => ∀ (H : Heap) (locs : List Loc) (ls : Array Slot), WS ZM D vwCl T ad z.2.1 z.2.2 A s.heap H locs → lv_has ls 2 [(0, .ref (ad 0)), (1, .int z.1)] → W p l e rmX12_keep s m args below meth c H locs 0 0 (MQ below (QV ZM D vwCl T (tysM T) A (fun z => ad = z) so lo) args s 0 0 A) (F0 m 52 ls [])) (fun rec hrec z h H locs ls hw hl => tX12_keep_52 C  (fun v1 sg lg => hrec (v1, sg, lg)) z.1 z.2.1 z.2.2 H locs ls hw hl h) z h
  exact fun v1 sg lg => key (v1, sg, lg)
def fX12_keep_50  (sg : Sg) (lg : Lg) : Option (Sg × Lg) :=
  LX12_keep_52 ((0 : Int32), sg, lg)
set_option maxHeartbeats 4000000 in
set_option maxRecDepth 100000 in
theorem tX12_keep_50 (C : Cx p s m args meth c cX12_keep 2 RX12 wsX12_keep none D vwCl (tysM T) A false []) {so : Sg} {lo : Lg}   : ∀ (sg : Sg) (lg : Lg), ∀ (H : Heap) (locs : List Loc) (ls : Array Slot), WS ZM D vwCl T ad sg lg A s.heap H locs → lv_has ls 2 [(0, .ref (ad 0))] → fX12_keep_50 sg lg = some (so, lo) → W p l e rmX12_keep s m args below meth c H locs 0 0 (MQ below (QV ZM D vwCl T (tysM T) A (fun z => ad = z) so lo) args s 0 0 A) (F0 m 50 ls []) := by
  obtain ⟨⟨hx, hb, hml, hown, hts⟩, hr, hlk, hK, hA, hsp⟩ := id C
  intro sg lg H locs ls hw hl h
  unfold fX12_keep_50 at h
  refine lv_iconst (v := (0 : Int32)) hx hb dX12_keep_50 (by decide) ?_
  refine lv_istore_n (lv' := [(1, .int (0 : Int32)), (0, .ref (ad 0))]) hx hb dX12_keep_51 rfl hl (by decide) rfl (fun ls hl => ?_)
  exact TX12_keep_52 C (0 : Int32) sg lg h _ _ _ hw (lv_sub hl [1, 0] rfl)
def fX12_keep_11 (r11 : (Int32 × Sg × Lg) → Option (Sg × Lg)) (v1 : Int32) (sg : Sg) (lg : Lg) : Option (Sg × Lg) :=
  (if (1351 : Int32) ≤ v1 then lt ((sg 0 2) - (1 : Int32)) (fun x2 => lt (up2 sg 0 2 x2) (fun sg3 => fX12_keep_50 sg3 lg)) else lt (v1 + (193 : Int32)) (fun x4 => gin x4 1544 (lt (sg 2 x4.toNatClampNeg) (fun x6 => gin v1 1544 (lt (up2 sg 2 v1.toNatClampNeg x6) (fun sg8 => lt (v1 + (1 : Int32)) (fun x9 => r11 (x9, sg8, lg))))))))
set_option maxHeartbeats 4000000 in
set_option maxRecDepth 100000 in
theorem tX12_keep_11 (C : Cx p s m args meth c cX12_keep 2 RX12 wsX12_keep none D vwCl (tysM T) A false []) {so : Sg} {lo : Lg} {r11 : (Int32 × Sg × Lg) → Option (Sg × Lg)} (hr11 : ∀ (v1 : Int32) (sg : Sg) (lg : Lg), r11 (v1, sg, lg) = some (so, lo) → ∀ (H : Heap) (locs : List Loc) (ls : Array Slot), WS ZM D vwCl T ad sg lg A s.heap H locs → lv_has ls 2 [(0, .ref (ad 0)), (1, .int v1)] → W p l e rmX12_keep s m args below meth c H locs 0 0 (MQ below (QV ZM D vwCl T (tysM T) A (fun z => ad = z) so lo) args s 0 0 A) (F0 m 11 ls [])) : ∀ (v1 : Int32) (sg : Sg) (lg : Lg), ∀ (H : Heap) (locs : List Loc) (ls : Array Slot), WS ZM D vwCl T ad sg lg A s.heap H locs → lv_has ls 2 [(0, .ref (ad 0)), (1, .int v1)] → fX12_keep_11 r11 v1 sg lg = some (so, lo) → W p l e rmX12_keep s m args below meth c H locs 0 0 (MQ below (QV ZM D vwCl T (tysM T) A (fun z => ad = z) so lo) args s 0 0 A) (F0 m 11 ls []) := by
  obtain ⟨⟨hx, hb, hml, hown, hts⟩, hr, hlk, hK, hA, hsp⟩ := id C
  intro v1 sg lg H locs ls hw hl h
  unfold fX12_keep_11 at h
  refine lv_iload_n hx hb dX12_keep_11 rfl (lv_at hl 1 rfl) ?_
  refine lv_sipush (v := (1351 : Int32)) hx hb dX12_keep_12 (by decide) ?_
  refine lv_icmp_ge (tgt := 40) hx hb dX12_keep_15 (by decide) (fun c1 => ?_) (fun c1 => ?_)
  · replace h := ite_t h c1
    refine lv_aload_n hx hb dX12_keep_40 rfl (lv_at hl 0 rfl) ?_
    refine lv_dup hx hb dX12_keep_41 rfl ?_
    refine r_getI (ci := 12) (C := RX12) (U := TX12) (N := 18) hx hb hts kX12_keep_iX12 hown hK hw 0 (by decide) rfl rfl 2 (by decide) rfl (hts _ kX12_keep_f49) (fun _ h9 => h9) dX12_keep_42 ?_
    refine lv_iconst (v := (1 : Int32)) hx hb dX12_keep_45 (by decide) ?_
    refine lv_isub hx hb dX12_keep_46 ?_
    refine lv_topi (fun x2 ex2 => ?_)
    replace h := lt_get h x2 ex2
    refine r_putI ZM_ok (ci := 12) (C := RX12) (U := TX12) (N := 18) (ty := .int) hx hb hts kX12_keep_iX12 tyX12 tyX12_ok nmX12 hown hK hw 0 (by decide) rfl rfl 2 (by decide) rfl (hts _ kX12_keep_f49) (fun _ h9 => h9) rfl (by decide +kernel) rfl rfl dX12_keep_47 (fun H locs sg3 esg3 hw => ?_)
    replace h := lt_get h sg3 esg3
    exact tX12_keep_50 C sg3 lg _ _ _ hw (lv_sub hl [0] rfl) h
  · replace h := ite_f h c1
    refine lv_aload_n hx hb dX12_keep_18 rfl (lv_at hl 0 rfl) ?_
    refine r_getR (ci := 12) (C := RX12) (U := TX12) (N := 18) hx hb hts kX12_keep_iX12 hown hK hw 0 (by decide) rfl rfl 1 (by decide) 2 rfl (hts _ kX12_keep_f13) (fun _ h9 => h9) dX12_keep_19 ?_
    refine lv_iload_n hx hb dX12_keep_22 rfl (lv_at hl 1 rfl) ?_
    refine lv_aload_n hx hb dX12_keep_23 rfl (lv_at hl 0 rfl) ?_
    refine r_getR (ci := 12) (C := RX12) (U := TX12) (N := 18) hx hb hts kX12_keep_iX12 hown hK hw 0 (by decide) rfl rfl 1 (by decide) 2 rfl (hts _ kX12_keep_f13) (fun _ h9 => h9) dX12_keep_24 ?_
    refine lv_iload_n hx hb dX12_keep_27 rfl (lv_at hl 1 rfl) ?_
    refine lv_sipush (v := (193 : Int32)) hx hb dX12_keep_28 (by decide) ?_
    refine lv_iadd hx hb dX12_keep_31 ?_
    refine lv_topi (fun x4 ex4 => ?_)
    replace h := lt_get h x4 ex4
    have hi5 := (gin_some h).1
    replace h := (gin_some h).2
    refine r_iald hx hb hK hw 2 0 1544 (by decide) rfl rfl rfl hi5 dX12_keep_32 ?_
    refine lv_topi (fun x6 ex6 => ?_)
    replace h := lt_get h x6 ex6
    have hi7 := (gin_some h).1
    replace h := (gin_some h).2
    refine r_iast ZM_ok hx hb hK hw 2 0 1544 (by decide) rfl rfl rfl hi7 dX12_keep_33 (fun H locs sg8 esg8 hw => ?_)
    replace h := lt_get h sg8 esg8
    obtain ⟨x9, ex9⟩ : ∃ z : Int32, z = (v1 + (1 : Int32)) := ⟨_, rfl⟩
    replace h := lt_get h x9 ex9
    refine lv_iinc (v := x9) (lv' := [(1, .int x9), (0, .ref (ad 0))]) hx hb dX12_keep_34 hl (k := 1) rfl (by rw [ex9]; rfl) (by decide) rfl (fun ls hl => ?_)
    refine lv_goto (tgt := 11) hx hb dX12_keep_37 (by decide) ?_
    exact hr11 x9 sg8 lg h _ _ _ hw (lv_sub hl [1, 0] rfl)
def LX12_keep_11  : (Int32 × Sg × Lg) → Option (Sg × Lg) := loop (fun rec z => fX12_keep_11 rec z.1 z.2.1 z.2.2)
theorem TX12_keep_11 (C : Cx p s m args meth c cX12_keep 2 RX12 wsX12_keep none D vwCl (tysM T) A false []) {so : Sg} {lo : Lg}   : ∀ (v1 : Int32) (sg : Sg) (lg : Lg), LX12_keep_11 (v1, sg, lg) = some (so, lo) → ∀ (H : Heap) (locs : List Loc) (ls : Array Slot), WS ZM D vwCl T ad sg lg A s.heap H locs → lv_has ls 2 [(0, .ref (ad 0)), (1, .int v1)] → W p l e rmX12_keep s m args below meth c H locs 0 0 (MQ below (QV ZM D vwCl T (tysM T) A (fun z => ad = z) so lo) args s 0 0 A) (F0 m 11 ls []) := by
  have key : ∀ z : (Int32 × Sg × Lg), LX12_keep_11  z = some (so, lo) → ∀ (H : Heap) (locs : List Loc) (ls : Array Slot), WS ZM D vwCl T ad z.2.1 z.2.2 A s.heap H locs → lv_has ls 2 [(0, .ref (ad 0)), (1, .int z.1)] → W p l e rmX12_keep s m args below meth c H locs 0 0 (MQ below (QV ZM D vwCl T (tysM T) A (fun z => ad = z) so lo) args s 0 0 A) (F0 m 11 ls []) := by
    intro z h
    unfold LX12_keep_11 at h
    exact loop_ind (fun rec z => fX12_keep_11 rec z.1 z.2.1 z.2.2) (y := (so, lo)) (P := fun z => ∀ (H : Heap) (locs : List Loc) (ls : Array Slot), WS ZM D vwCl T ad z.2.1 z.2.2 A s.heap H locs → lv_has ls 2 [(0, .ref (ad 0)), (1, .int z.1)] → W p l e rmX12_keep s m args below meth c H locs 0 0 (MQ below (QV ZM D vwCl T (tysM T) A (fun z => ad = z) so lo) args s 0 0 A) (F0 m 11 ls [])) (fun rec hrec z h H locs ls hw hl => tX12_keep_11 C  (fun v1 sg lg => hrec (v1, sg, lg)) z.1 z.2.1 z.2.2 H locs ls hw hl h) z h
  exact fun v1 sg lg => key (v1, sg, lg)
def fX12_keep  (sg : Sg) (lg : Lg) : Option (Sg × Lg) :=
  (if (sg 0 2) = (8 : Int32) then LX12_keep_11 ((0 : Int32), sg, lg) else fX12_keep_50 sg lg)
set_option maxHeartbeats 4000000 in
set_option maxRecDepth 100000 in
theorem tX12_keep_0 (C : Cx p s m args meth c cX12_keep 2 RX12 wsX12_keep none D vwCl (tysM T) A false []) {so : Sg} {lo : Lg}   : ∀ (sg : Sg) (lg : Lg), ∀ (H : Heap) (locs : List Loc) (ls : Array Slot), WS ZM D vwCl T ad sg lg A s.heap H locs → lv_has ls 2 [(0, .ref (ad 0))] → fX12_keep sg lg = some (so, lo) → W p l e rmX12_keep s m args below meth c H locs 0 0 (MQ below (QV ZM D vwCl T (tysM T) A (fun z => ad = z) so lo) args s 0 0 A) (F0 m 0 ls []) := by
  obtain ⟨⟨hx, hb, hml, hown, hts⟩, hr, hlk, hK, hA, hsp⟩ := id C
  intro sg lg H locs ls hw hl h
  unfold fX12_keep at h
  refine lv_aload_n hx hb dX12_keep_0 rfl (lv_at hl 0 rfl) ?_
  refine r_getI (ci := 12) (C := RX12) (U := TX12) (N := 18) hx hb hts kX12_keep_iX12 hown hK hw 0 (by decide) rfl rfl 2 (by decide) rfl (hts _ kX12_keep_f49) (fun _ h9 => h9) dX12_keep_1 ?_
  refine lv_bipush (v := (8 : Int32)) hx hb dX12_keep_4 (by decide) ?_
  refine lv_icmp_ne (tgt := 50) hx hb dX12_keep_6 (by decide) (fun c1 => ?_) (fun c1 => ?_)
  · replace h := ite_f h c1
    exact tX12_keep_50 C sg lg _ _ _ hw (lv_sub hl [0] rfl) h
  · replace h := ite_t h c1
    refine lv_iconst (v := (0 : Int32)) hx hb dX12_keep_9 (by decide) ?_
    refine lv_istore_n (lv' := [(1, .int (0 : Int32)), (0, .ref (ad 0))]) hx hb dX12_keep_10 rfl hl (by decide) rfl (fun ls hl => ?_)
    exact TX12_keep_11 C (0 : Int32) sg lg h _ _ _ hw (lv_sub hl [1, 0] rfl)
theorem mX12_keep (l : Launch) (D : va_G) (T : Nat → ClassId) (ad : Nat → Nat)  (sz : Nat)   (sg : Sg) (lg : Lg) {so : Sg} {lo : Lg} (h : fX12_keep sg lg = some (so, lo)) : Met l yX12_keep wsX12_keep rmX12_keep (PreZ ZM D vwCl T (tysM T) ad sg lg false [] [.ref (ad 0)] sz) (QV ZM D vwCl T (tysM T) (va_A (zwd ZM T ad sg lg) sz) (fun z => ad = z) so lo) 0 0 (va_A (zwd ZM T ad sg lg) sz) :=
  metZ [.ref (ad 0)] sz (by decide) rfl (Nat.le_of_ble_eq_true rfl) (fun p e s m below meth c ls C hw hl => tX12_keep_0 C sg lg _ _ _ hw hl h)
-- PeckYardModel.empty(II)V
def rmX12_empty : Room := { frames := 0, cells := 0, slots := 0, locals := 0 }
theorem kX12_empty_f7 : Cond.fieldLink RX12 7 "PeckYardModel" "s" "[I" ∈ wsX12_empty := by decide +kernel
theorem kX12_empty_iX12 : ∀ w ∈ u_ws RX12 TX12 18, w ∈ wsX12_empty := by decide +kernel
def fX12_empty_12 (r12 : (Int32 × Int32 × Sg × Lg) → Option (Sg × Lg)) (v1 : Int32) (v3 : Int32) (sg : Sg) (lg : Lg) : Option (Sg × Lg) :=
  (if (12 : Int32) ≤ v3 then some (sg, lg) else gin (((49 : Int32) + ((12 : Int32) * v1)) + v3) 193 (lt (up2 sg 1 (((49 : Int32) + ((12 : Int32) * v1)) + v3).toNatClampNeg (0 : Int32)) (fun sg3 => lt (v3 + (1 : Int32)) (fun x4 => r12 (v1, x4, sg3, lg)))))
set_option maxHeartbeats 4000000 in
set_option maxRecDepth 100000 in
theorem tX12_empty_12 (C : Cx p s m args meth c cX12_empty 4 RX12 wsX12_empty none D vwCl (tysM T) A false []) {so : Sg} {lo : Lg} {r12 : (Int32 × Int32 × Sg × Lg) → Option (Sg × Lg)} (hr12 : ∀ (v1 : Int32) (v3 : Int32) (sg : Sg) (lg : Lg), r12 (v1, v3, sg, lg) = some (so, lo) → ∀ (H : Heap) (locs : List Loc) (ls : Array Slot), WS ZM D vwCl T ad sg lg A s.heap H locs → lv_has ls 4 [(0, .ref (ad 0)), (1, .int v1), (3, .int v3)] → W p l e rmX12_empty s m args below meth c H locs 0 0 (MQ below (QV ZM D vwCl T (tysM T) A (fun z => ad = z) so lo) args s 0 0 A) (F0 m 12 ls [])) : ∀ (v1 : Int32) (v3 : Int32) (sg : Sg) (lg : Lg), ∀ (H : Heap) (locs : List Loc) (ls : Array Slot), WS ZM D vwCl T ad sg lg A s.heap H locs → lv_has ls 4 [(0, .ref (ad 0)), (1, .int v1), (3, .int v3)] → fX12_empty_12 r12 v1 v3 sg lg = some (so, lo) → W p l e rmX12_empty s m args below meth c H locs 0 0 (MQ below (QV ZM D vwCl T (tysM T) A (fun z => ad = z) so lo) args s 0 0 A) (F0 m 12 ls []) := by
  obtain ⟨⟨hx, hb, hml, hown, hts⟩, hr, hlk, hK, hA, hsp⟩ := id C
  intro v1 v3 sg lg H locs ls hw hl h
  unfold fX12_empty_12 at h
  refine lv_iload_n hx hb dX12_empty_12 rfl (lv_at hl 2 rfl) ?_
  refine lv_bipush (v := (12 : Int32)) hx hb dX12_empty_13 (by decide) ?_
  refine lv_icmp_ge (tgt := 39) hx hb dX12_empty_15 (by decide) (fun c1 => ?_) (fun c1 => ?_)
  · replace h := ite_t h c1
    cases h
    exact r_vret C hw rfl (by decide) (by decide) dX12_empty_39
  · replace h := ite_f h c1
    refine lv_aload_n hx hb dX12_empty_18 rfl (lv_at hl 0 rfl) ?_
    refine r_getR (ci := 12) (C := RX12) (U := TX12) (N := 18) hx hb hts kX12_empty_iX12 hown hK hw 0 (by decide) rfl rfl 0 (by decide) 1 rfl (hts _ kX12_empty_f7) (fun _ h9 => h9) dX12_empty_19 ?_
    refine lv_bipush (v := (49 : Int32)) hx hb dX12_empty_22 (by decide) ?_
    refine lv_bipush (v := (12 : Int32)) hx hb dX12_empty_24 (by decide) ?_
    refine lv_iload_n hx hb dX12_empty_26 rfl (lv_at hl 1 rfl) ?_
    refine lv_imul hx hb dX12_empty_27 ?_
    refine lv_iadd hx hb dX12_empty_28 ?_
    refine lv_iload_n hx hb dX12_empty_29 rfl (lv_at hl 2 rfl) ?_
    refine lv_iadd hx hb dX12_empty_30 ?_
    refine lv_iconst (v := (0 : Int32)) hx hb dX12_empty_31 (by decide) ?_
    have hi2 := (gin_some h).1
    replace h := (gin_some h).2
    refine r_iast ZM_ok hx hb hK hw 1 0 193 (by decide) rfl rfl rfl hi2 dX12_empty_32 (fun H locs sg3 esg3 hw => ?_)
    replace h := lt_get h sg3 esg3
    obtain ⟨x4, ex4⟩ : ∃ z : Int32, z = (v3 + (1 : Int32)) := ⟨_, rfl⟩
    replace h := lt_get h x4 ex4
    refine lv_iinc (v := x4) (lv' := [(3, .int x4), (0, .ref (ad 0)), (1, .int v1)]) hx hb dX12_empty_33 hl (k := 2) rfl (by rw [ex4]; rfl) (by decide) rfl (fun ls hl => ?_)
    refine lv_goto (tgt := 12) hx hb dX12_empty_36 (by decide) ?_
    exact hr12 v1 x4 sg3 lg h _ _ _ hw (lv_sub hl [1, 2, 0] rfl)
def LX12_empty_12  : (Int32 × Int32 × Sg × Lg) → Option (Sg × Lg) := loop (fun rec z => fX12_empty_12 rec z.1 z.2.1 z.2.2.1 z.2.2.2)
theorem TX12_empty_12 (C : Cx p s m args meth c cX12_empty 4 RX12 wsX12_empty none D vwCl (tysM T) A false []) {so : Sg} {lo : Lg}   : ∀ (v1 : Int32) (v3 : Int32) (sg : Sg) (lg : Lg), LX12_empty_12 (v1, v3, sg, lg) = some (so, lo) → ∀ (H : Heap) (locs : List Loc) (ls : Array Slot), WS ZM D vwCl T ad sg lg A s.heap H locs → lv_has ls 4 [(0, .ref (ad 0)), (1, .int v1), (3, .int v3)] → W p l e rmX12_empty s m args below meth c H locs 0 0 (MQ below (QV ZM D vwCl T (tysM T) A (fun z => ad = z) so lo) args s 0 0 A) (F0 m 12 ls []) := by
  have key : ∀ z : (Int32 × Int32 × Sg × Lg), LX12_empty_12  z = some (so, lo) → ∀ (H : Heap) (locs : List Loc) (ls : Array Slot), WS ZM D vwCl T ad z.2.2.1 z.2.2.2 A s.heap H locs → lv_has ls 4 [(0, .ref (ad 0)), (1, .int z.1), (3, .int z.2.1)] → W p l e rmX12_empty s m args below meth c H locs 0 0 (MQ below (QV ZM D vwCl T (tysM T) A (fun z => ad = z) so lo) args s 0 0 A) (F0 m 12 ls []) := by
    intro z h
    unfold LX12_empty_12 at h
    exact loop_ind (fun rec z => fX12_empty_12 rec z.1 z.2.1 z.2.2.1 z.2.2.2) (y := (so, lo)) (P := fun z => ∀ (H : Heap) (locs : List Loc) (ls : Array Slot), WS ZM D vwCl T ad z.2.2.1 z.2.2.2 A s.heap H locs → lv_has ls 4 [(0, .ref (ad 0)), (1, .int z.1), (3, .int z.2.1)] → W p l e rmX12_empty s m args below meth c H locs 0 0 (MQ below (QV ZM D vwCl T (tysM T) A (fun z => ad = z) so lo) args s 0 0 A) (F0 m 12 ls [])) (fun rec hrec z h H locs ls hw hl => tX12_empty_12 C  (fun v1 v3 sg lg => hrec (v1, v3, sg, lg)) z.1 z.2.1 z.2.2.1 z.2.2.2 H locs ls hw hl h) z h
  exact fun v1 v3 sg lg => key (v1, v3, sg, lg)
def fX12_empty  (v1 : Int32) (v2 : Int32) (sg : Sg) (lg : Lg) : Option (Sg × Lg) :=
  gin ((37 : Int32) + v1) 193 (lt (up2 sg 1 ((37 : Int32) + v1).toNatClampNeg v2) (fun sg2 => LX12_empty_12 (v1, (0 : Int32), sg2, lg)))
set_option maxHeartbeats 4000000 in
set_option maxRecDepth 100000 in
theorem tX12_empty_0 (C : Cx p s m args meth c cX12_empty 4 RX12 wsX12_empty none D vwCl (tysM T) A false []) {so : Sg} {lo : Lg}   : ∀ (v1 : Int32) (v2 : Int32) (sg : Sg) (lg : Lg), ∀ (H : Heap) (locs : List Loc) (ls : Array Slot), WS ZM D vwCl T ad sg lg A s.heap H locs → lv_has ls 4 [(0, .ref (ad 0)), (1, .int v1), (2, .int v2)] → fX12_empty v1 v2 sg lg = some (so, lo) → W p l e rmX12_empty s m args below meth c H locs 0 0 (MQ below (QV ZM D vwCl T (tysM T) A (fun z => ad = z) so lo) args s 0 0 A) (F0 m 0 ls []) := by
  obtain ⟨⟨hx, hb, hml, hown, hts⟩, hr, hlk, hK, hA, hsp⟩ := id C
  intro v1 v2 sg lg H locs ls hw hl h
  unfold fX12_empty at h
  refine lv_aload_n hx hb dX12_empty_0 rfl (lv_at hl 0 rfl) ?_
  refine r_getR (ci := 12) (C := RX12) (U := TX12) (N := 18) hx hb hts kX12_empty_iX12 hown hK hw 0 (by decide) rfl rfl 0 (by decide) 1 rfl (hts _ kX12_empty_f7) (fun _ h9 => h9) dX12_empty_1 ?_
  refine lv_bipush (v := (37 : Int32)) hx hb dX12_empty_4 (by decide) ?_
  refine lv_iload_n hx hb dX12_empty_6 rfl (lv_at hl 1 rfl) ?_
  refine lv_iadd hx hb dX12_empty_7 ?_
  refine lv_iload_n hx hb dX12_empty_8 rfl (lv_at hl 2 rfl) ?_
  have hi1 := (gin_some h).1
  replace h := (gin_some h).2
  refine r_iast ZM_ok hx hb hK hw 1 0 193 (by decide) rfl rfl rfl hi1 dX12_empty_9 (fun H locs sg2 esg2 hw => ?_)
  replace h := lt_get h sg2 esg2
  refine lv_iconst (v := (0 : Int32)) hx hb dX12_empty_10 (by decide) ?_
  refine lv_istore_n (lv' := [(3, .int (0 : Int32)), (0, .ref (ad 0)), (1, .int v1), (2, .int v2)]) hx hb dX12_empty_11 rfl hl (by decide) rfl (fun ls hl => ?_)
  exact TX12_empty_12 C v1 (0 : Int32) sg2 lg h _ _ _ hw (lv_sub hl [1, 2, 0] rfl)
theorem mX12_empty (l : Launch) (D : va_G) (T : Nat → ClassId) (ad : Nat → Nat)  (sz : Nat)   (v1 : Int32) (v2 : Int32) (sg : Sg) (lg : Lg) {so : Sg} {lo : Lg} (h : fX12_empty v1 v2 sg lg = some (so, lo)) : Met l yX12_empty wsX12_empty rmX12_empty (PreZ ZM D vwCl T (tysM T) ad sg lg false [] [.ref (ad 0), .int v1, .int v2] sz) (QV ZM D vwCl T (tysM T) (va_A (zwd ZM T ad sg lg) sz) (fun z => ad = z) so lo) 0 0 (va_A (zwd ZM T ad sg lg) sz) :=
  metZ [.ref (ad 0), .int v1, .int v2] sz (by decide) rfl (Nat.le_of_ble_eq_true rfl) (fun p e s m below meth c ls C hw hl => tX12_empty_0 C v1 v2 sg lg _ _ _ hw hl h)
-- PeckYardModel.hen(II)J
def rmX12_hen : Room := { frames := 2, cells := 0, slots := 0, locals := 46 }
theorem kX12_hen_c66 : Cond.constantLong RX12 66 (4) ∈ wsX12_hen := by decide +kernel
theorem kX12_hen_c72 : Cond.constantLong RX12 72 (-2000000001) ∈ wsX12_hen := by decide +kernel
theorem kX12_hen_f7 : Cond.fieldLink RX12 7 "PeckYardModel" "s" "[I" ∈ wsX12_hen := by decide +kernel
theorem kX12_hen_iX12 : ∀ w ∈ u_ws RX12 TX12 18, w ∈ wsX12_hen := by decide +kernel
theorem kX12_hen_c74 : Cond.constantLong RX12 74 (-2000000003) ∈ wsX12_hen := by decide +kernel
def fX12_hen  (v1 : Int32) (v2 : Int32) (sg : Sg) (lg : Lg) : Option (Int64 × Sg × Lg) :=
  bnd3 (fX12_hens sg lg) (fun y1 sg2 lg3 => bnd3 (fX12_isIn v1.toInt64 (0 : Int64) (4 : Int64) sg2 lg3) (fun y5 sg6 lg7 => (if y5 = 0 then some ((-2000000001 : Int64), sg6, lg7) else bnd3 (fX12_mayAsk y1 v2 sg6 lg7) (fun y10 sg11 lg12 => (if y10 = 0 then some ((-2000000001 : Int64), sg11, lg12) else (if y1 = (12 : Int32) then some ((-2000000003 : Int64), sg11, lg12) else bnd2 (fX12_keep sg11 lg12) (fun sg16 lg17 => gin (0 : Int32) 193 (lt ((sg16 1 (0 : Int32).toNatClampNeg) + (1 : Int32)) (fun x20 => gin (0 : Int32) 193 (lt (up2 sg16 1 (0 : Int32).toNatClampNeg x20) (fun sg22 => gin ((1 : Int32) + y1) 193 (lt (up2 sg22 1 ((1 : Int32) + y1).toNatClampNeg v1) (fun sg24 => gin ((13 : Int32) + y1) 193 (lt (up2 sg24 1 ((13 : Int32) + y1).toNatClampNeg v2) (fun sg26 => gin ((25 : Int32) + y1) 193 (lt (up2 sg26 1 ((25 : Int32) + y1).toNatClampNeg (0 : Int32)) (fun sg28 => bnd2 (fX12_empty y1 (-1 : Int32) sg28 lg17) (fun sg29 lg30 => some (y1.toInt64, sg29, lg30)))))))))))))))))))
set_option maxHeartbeats 4000000 in
set_option maxRecDepth 100000 in
theorem tX12_hen_0 (C : Cx p s m args meth c cX12_hen 4 RX12 wsX12_hen (some .long) D vwCl (tysM T) A false []) {ro : Int64} {so : Sg} {lo : Lg}   : ∀ (v1 : Int32) (v2 : Int32) (sg : Sg) (lg : Lg), ∀ (H : Heap) (locs : List Loc) (ls : Array Slot), WS ZM D vwCl T ad sg lg A s.heap H locs → lv_has ls 4 [(0, .ref (ad 0)), (1, .int v1), (2, .int v2)] → fX12_hen v1 v2 sg lg = some (ro, so, lo) → W p l e rmX12_hen s m args below meth c H locs 0 0 (MQ below (QL ZM D vwCl T (tysM T) A (fun z => ad = z) ro so lo) args s 0 0 A) (F0 m 0 ls []) := by
  obtain ⟨⟨hx, hb, hml, hown, hts⟩, hr, hlk, hK, hA, hsp⟩ := id C
  intro v1 v2 sg lg H locs ls hw hl h
  unfold fX12_hen at h
  refine lv_aload_n hx hb dX12_hen_0 rfl (lv_at hl 0 rfl) ?_
  obtain ⟨y1, sg2, lg3, hq4, h2⟩ := bnd3_some h
  replace h := h2
  clear h2
  refine r_cVi (As := []) (rest := []) C hw 0 (by decide) (ci := 12) rfl rfl (mX12_hens l D T ad  H.size sg lg hq4) (cwV 0 hts gX12_hen_X12_hens rfl rfl rfl (by decide +kernel) ⟨Nat.le_of_ble_eq_true rfl, Nat.le_of_ble_eq_true rfl⟩) rfl hl.1 rfl (Nat.le_of_ble_eq_true rfl) dX12_hen_1 ⟨Nat.le_of_ble_eq_true rfl, Nat.le_of_ble_eq_true rfl⟩ (fun ad' H locs hp hw => ?_)
  subst hp
  refine W.widen (k := 0) (n := 0) (by decide) (by decide) ?_
  refine lv_istore_n (lv' := [(3, .int y1), (0, .ref (ad 0)), (1, .int v1), (2, .int v2)]) hx hb dX12_hen_4 rfl hl (by decide) rfl (fun ls hl => ?_)
  refine lv_iload_n hx hb dX12_hen_5 rfl (lv_at hl 2 rfl) ?_
  refine lv_i2l (v := v1.toInt64) hx hb dX12_hen_6 rfl ?_
  refine lv_lconst (v := (0 : Int64)) hx hb dX12_hen_7 (by decide) ?_
  refine lv_ldc2 hx hb hown (hts _ kX12_hen_c66) dX12_hen_8 ?_
  obtain ⟨y5, sg6, lg7, hq8, h2⟩ := bnd3_some h
  replace h := h2
  clear h2
  refine r_cSi (As := [.long v1.toInt64, .long (0 : Int64), .long (4 : Int64)]) (rest := []) C hw (mX12_isIn l D T ad  H.size v1.toInt64 (0 : Int64) (4 : Int64) sg2 lg3 hq8) (va_cwS 3 hts gX12_hen_X12_isIn rfl rfl rfl (by decide +kernel) ⟨Nat.le_of_ble_eq_true rfl, Nat.le_of_ble_eq_true rfl⟩) rfl hl.1 rfl (Nat.le_of_ble_eq_true rfl) dX12_hen_11 ⟨Nat.le_of_ble_eq_true rfl, Nat.le_of_ble_eq_true rfl⟩ (fun ad' H locs hp hw => ?_)
  subst hp
  refine W.widen (k := 0) (n := 0) (by decide) (by decide) ?_
  refine lv_if_eq (tgt := 25) hx hb dX12_hen_14 (by decide) (fun c9 => ?_) (fun c9 => ?_)
  · replace h := ite_t h c9
    refine lv_ldc2 hx hb hown (hts _ kX12_hen_c72) dX12_hen_25 ?_
    cases h
    exact r_lret C hw rfl (by decide) (by decide) dX12_hen_28
  · replace h := ite_f h c9
    refine lv_iload_n hx hb dX12_hen_17 rfl (lv_at hl 0 rfl) ?_
    refine lv_iload_n hx hb dX12_hen_18 rfl (lv_at hl 3 rfl) ?_
    obtain ⟨y10, sg11, lg12, hq13, h2⟩ := bnd3_some h
    replace h := h2
    clear h2
    refine r_cSi (As := [.int y1, .int v2]) (rest := []) C hw (mX12_mayAsk l D T ad  H.size y1 v2 sg6 lg7 hq13) (va_cwS 2 hts gX12_hen_X12_mayAsk rfl rfl rfl (by decide +kernel) ⟨Nat.le_of_ble_eq_true rfl, Nat.le_of_ble_eq_true rfl⟩) rfl hl.1 rfl (Nat.le_of_ble_eq_true rfl) dX12_hen_19 ⟨Nat.le_of_ble_eq_true rfl, Nat.le_of_ble_eq_true rfl⟩ (fun ad' H locs hp hw => ?_)
    subst hp
    refine W.widen (k := 0) (n := 0) (by decide) (by decide) ?_
    refine lv_if_ne (tgt := 29) hx hb dX12_hen_22 (by decide) (fun c14 => ?_) (fun c14 => ?_)
    · replace h := ite_f h c14
      refine lv_iload_n hx hb dX12_hen_29 rfl (lv_at hl 0 rfl) ?_
      refine lv_bipush (v := (12 : Int32)) hx hb dX12_hen_30 (by decide) ?_
      refine lv_icmp_ne (tgt := 39) hx hb dX12_hen_32 (by decide) (fun c15 => ?_) (fun c15 => ?_)
      · replace h := ite_f h c15
        refine lv_aload_n hx hb dX12_hen_39 rfl (lv_at hl 1 rfl) ?_
        obtain ⟨sg16, lg17, hq18, h2⟩ := bnd2_some h
        replace h := h2
        clear h2
        refine r_cVv (As := []) (rest := []) C hw 0 (by decide) (ci := 12) rfl rfl (mX12_keep l D T ad  H.size sg11 lg12 hq18) (cwV 0 hts gX12_hen_X12_keep rfl rfl rfl (by decide +kernel) ⟨Nat.le_of_ble_eq_true rfl, Nat.le_of_ble_eq_true rfl⟩) rfl hl.1 rfl (Nat.le_of_ble_eq_true rfl) dX12_hen_40 ⟨Nat.le_of_ble_eq_true rfl, Nat.le_of_ble_eq_true rfl⟩ (fun ad' H locs hp hw => ?_)
        subst hp
        refine W.widen (k := 0) (n := 0) (by decide) (by decide) ?_
        refine lv_aload_n hx hb dX12_hen_43 rfl (lv_at hl 1 rfl) ?_
        refine r_getR (ci := 12) (C := RX12) (U := TX12) (N := 18) hx hb hts kX12_hen_iX12 hown hK hw 0 (by decide) rfl rfl 0 (by decide) 1 rfl (hts _ kX12_hen_f7) (fun _ h9 => h9) dX12_hen_44 ?_
        refine lv_iconst (v := (0 : Int32)) hx hb dX12_hen_47 (by decide) ?_
        refine lv_dup2_11 hx hb dX12_hen_48 rfl rfl ?_
        have hi19 := (gin_some h).1
        replace h := (gin_some h).2
        refine r_iald hx hb hK hw 1 0 193 (by decide) rfl rfl rfl hi19 dX12_hen_49 ?_
        refine lv_iconst (v := (1 : Int32)) hx hb dX12_hen_50 (by decide) ?_
        refine lv_iadd hx hb dX12_hen_51 ?_
        refine lv_topi (fun x20 ex20 => ?_)
        replace h := lt_get h x20 ex20
        have hi21 := (gin_some h).1
        replace h := (gin_some h).2
        refine r_iast ZM_ok hx hb hK hw 1 0 193 (by decide) rfl rfl rfl hi21 dX12_hen_52 (fun H locs sg22 esg22 hw => ?_)
        replace h := lt_get h sg22 esg22
        refine lv_aload_n hx hb dX12_hen_53 rfl (lv_at hl 1 rfl) ?_
        refine r_getR (ci := 12) (C := RX12) (U := TX12) (N := 18) hx hb hts kX12_hen_iX12 hown hK hw 0 (by decide) rfl rfl 0 (by decide) 1 rfl (hts _ kX12_hen_f7) (fun _ h9 => h9) dX12_hen_54 ?_
        refine lv_iconst (v := (1 : Int32)) hx hb dX12_hen_57 (by decide) ?_
        refine lv_iload_n hx hb dX12_hen_58 rfl (lv_at hl 0 rfl) ?_
        refine lv_iadd hx hb dX12_hen_59 ?_
        refine lv_iload_n hx hb dX12_hen_60 rfl (lv_at hl 2 rfl) ?_
        have hi23 := (gin_some h).1
        replace h := (gin_some h).2
        refine r_iast ZM_ok hx hb hK hw 1 0 193 (by decide) rfl rfl rfl hi23 dX12_hen_61 (fun H locs sg24 esg24 hw => ?_)
        replace h := lt_get h sg24 esg24
        refine lv_aload_n hx hb dX12_hen_62 rfl (lv_at hl 1 rfl) ?_
        refine r_getR (ci := 12) (C := RX12) (U := TX12) (N := 18) hx hb hts kX12_hen_iX12 hown hK hw 0 (by decide) rfl rfl 0 (by decide) 1 rfl (hts _ kX12_hen_f7) (fun _ h9 => h9) dX12_hen_63 ?_
        refine lv_bipush (v := (13 : Int32)) hx hb dX12_hen_66 (by decide) ?_
        refine lv_iload_n hx hb dX12_hen_68 rfl (lv_at hl 0 rfl) ?_
        refine lv_iadd hx hb dX12_hen_69 ?_
        refine lv_iload_n hx hb dX12_hen_70 rfl (lv_at hl 3 rfl) ?_
        have hi25 := (gin_some h).1
        replace h := (gin_some h).2
        refine r_iast ZM_ok hx hb hK hw 1 0 193 (by decide) rfl rfl rfl hi25 dX12_hen_71 (fun H locs sg26 esg26 hw => ?_)
        replace h := lt_get h sg26 esg26
        refine lv_aload_n hx hb dX12_hen_72 rfl (lv_at hl 1 rfl) ?_
        refine r_getR (ci := 12) (C := RX12) (U := TX12) (N := 18) hx hb hts kX12_hen_iX12 hown hK hw 0 (by decide) rfl rfl 0 (by decide) 1 rfl (hts _ kX12_hen_f7) (fun _ h9 => h9) dX12_hen_73 ?_
        refine lv_bipush (v := (25 : Int32)) hx hb dX12_hen_76 (by decide) ?_
        refine lv_iload_n hx hb dX12_hen_78 rfl (lv_at hl 0 rfl) ?_
        refine lv_iadd hx hb dX12_hen_79 ?_
        refine lv_iconst (v := (0 : Int32)) hx hb dX12_hen_80 (by decide) ?_
        have hi27 := (gin_some h).1
        replace h := (gin_some h).2
        refine r_iast ZM_ok hx hb hK hw 1 0 193 (by decide) rfl rfl rfl hi27 dX12_hen_81 (fun H locs sg28 esg28 hw => ?_)
        replace h := lt_get h sg28 esg28
        refine lv_aload_n hx hb dX12_hen_82 rfl (lv_at hl 1 rfl) ?_
        refine lv_iload_n hx hb dX12_hen_83 rfl (lv_at hl 0 rfl) ?_
        refine lv_iconst (v := (-1 : Int32)) hx hb dX12_hen_84 (by decide) ?_
        obtain ⟨sg29, lg30, hq31, h2⟩ := bnd2_some h
        replace h := h2
        clear h2
        refine r_cVv (As := [.int y1, .int (-1 : Int32)]) (rest := []) C hw 0 (by decide) (ci := 12) rfl rfl (mX12_empty l D T ad  H.size y1 (-1 : Int32) sg28 lg17 hq31) (cwV 2 hts gX12_hen_X12_empty rfl rfl rfl (by decide +kernel) ⟨Nat.le_of_ble_eq_true rfl, Nat.le_of_ble_eq_true rfl⟩) rfl hl.1 rfl (Nat.le_of_ble_eq_true rfl) dX12_hen_85 ⟨Nat.le_of_ble_eq_true rfl, Nat.le_of_ble_eq_true rfl⟩ (fun ad' H locs hp hw => ?_)
        subst hp
        refine W.widen (k := 0) (n := 0) (by decide) (by decide) ?_
        refine lv_iload_n hx hb dX12_hen_88 rfl (lv_at hl 0 rfl) ?_
        refine lv_i2l (v := y1.toInt64) hx hb dX12_hen_89 rfl ?_
        cases h
        exact r_lret C hw rfl (by decide) (by decide) dX12_hen_90
      · replace h := ite_t h c15
        refine lv_ldc2 hx hb hown (hts _ kX12_hen_c74) dX12_hen_35 ?_
        cases h
        exact r_lret C hw rfl (by decide) (by decide) dX12_hen_38
    · replace h := ite_t h c14
      refine lv_ldc2 hx hb hown (hts _ kX12_hen_c72) dX12_hen_25 ?_
      cases h
      exact r_lret C hw rfl (by decide) (by decide) dX12_hen_28
theorem mX12_hen (l : Launch) (D : va_G) (T : Nat → ClassId) (ad : Nat → Nat)  (sz : Nat)   (v1 : Int32) (v2 : Int32) (sg : Sg) (lg : Lg) {ro : Int64} {so : Sg} {lo : Lg} (h : fX12_hen v1 v2 sg lg = some (ro, so, lo)) : Met l yX12_hen wsX12_hen rmX12_hen (PreZ ZM D vwCl T (tysM T) ad sg lg false [] [.ref (ad 0), .int v1, .int v2] sz) (QL ZM D vwCl T (tysM T) (va_A (zwd ZM T ad sg lg) sz) (fun z => ad = z) ro so lo) 0 0 (va_A (zwd ZM T ad sg lg) sz) :=
  metZ [.ref (ad 0), .int v1, .int v2] sz (by decide) rfl (Nat.le_of_ble_eq_true rfl) (fun p e s m below meth c ls C hw hl => tX12_hen_0 C v1 v2 sg lg _ _ _ hw hl h)
-- PeckYardModel.isHen(I)Z
def rmX12_isHen : Room := { frames := 1, cells := 0, slots := 0, locals := 25 }
def fX12_isHen  (v1 : Int32) (sg : Sg) (lg : Lg) : Option (Int32 × Sg × Lg) :=
  bnd3 (fX12_hens sg lg) (fun y1 sg2 lg3 => bnd3 (fX12_isIn v1.toInt64 (0 : Int64) ((y1 - (1 : Int32)).toInt64) sg2 lg3) (fun y5 sg6 lg7 => gz y5 (some (y5, sg6, lg7))))
set_option maxHeartbeats 4000000 in
set_option maxRecDepth 100000 in
theorem tX12_isHen_0 (C : Cx p s m args meth c cX12_isHen 2 RX12 wsX12_isHen (some .boolean) D vwCl (tysM T) A false []) {ro : Int32} {so : Sg} {lo : Lg}   : ∀ (v1 : Int32) (sg : Sg) (lg : Lg), ∀ (H : Heap) (locs : List Loc) (ls : Array Slot), WS ZM D vwCl T ad sg lg A s.heap H locs → lv_has ls 2 [(0, .ref (ad 0)), (1, .int v1)] → fX12_isHen v1 sg lg = some (ro, so, lo) → W p l e rmX12_isHen s m args below meth c H locs 0 0 (MQ below (QI ZM D vwCl T (tysM T) A (fun z => ad = z) ro so lo) args s 0 0 A) (F0 m 0 ls []) := by
  obtain ⟨⟨hx, hb, hml, hown, hts⟩, hr, hlk, hK, hA, hsp⟩ := id C
  intro v1 sg lg H locs ls hw hl h
  unfold fX12_isHen at h
  refine lv_iload_n hx hb dX12_isHen_0 rfl (lv_at hl 1 rfl) ?_
  refine lv_i2l (v := v1.toInt64) hx hb dX12_isHen_1 rfl ?_
  refine lv_lconst (v := (0 : Int64)) hx hb dX12_isHen_2 (by decide) ?_
  refine lv_aload_n hx hb dX12_isHen_3 rfl (lv_at hl 0 rfl) ?_
  obtain ⟨y1, sg2, lg3, hq4, h2⟩ := bnd3_some h
  replace h := h2
  clear h2
  refine r_cVi (As := []) (rest := [.long (0 : Int64), .long v1.toInt64]) C hw 0 (by decide) (ci := 12) rfl rfl (mX12_hens l D T ad  H.size sg lg hq4) (cwV 0 hts gX12_isHen_X12_hens rfl rfl rfl (by decide +kernel) ⟨Nat.le_of_ble_eq_true rfl, Nat.le_of_ble_eq_true rfl⟩) rfl hl.1 rfl (Nat.le_of_ble_eq_true rfl) dX12_isHen_4 ⟨Nat.le_of_ble_eq_true rfl, Nat.le_of_ble_eq_true rfl⟩ (fun ad' H locs hp hw => ?_)
  subst hp
  refine W.widen (k := 0) (n := 0) (by decide) (by decide) ?_
  refine lv_iconst (v := (1 : Int32)) hx hb dX12_isHen_7 (by decide) ?_
  refine lv_isub hx hb dX12_isHen_8 ?_
  refine lv_i2l (v := (y1 - (1 : Int32)).toInt64) hx hb dX12_isHen_9 rfl ?_
  obtain ⟨y5, sg6, lg7, hq8, h2⟩ := bnd3_some h
  replace h := h2
  clear h2
  refine r_cSi (As := [.long v1.toInt64, .long (0 : Int64), .long ((y1 - (1 : Int32)).toInt64)]) (rest := []) C hw (mX12_isIn l D T ad  H.size v1.toInt64 (0 : Int64) ((y1 - (1 : Int32)).toInt64) sg2 lg3 hq8) (va_cwS 3 hts gX12_isHen_X12_isIn rfl rfl rfl (by decide +kernel) ⟨Nat.le_of_ble_eq_true rfl, Nat.le_of_ble_eq_true rfl⟩) rfl hl.1 rfl (Nat.le_of_ble_eq_true rfl) dX12_isHen_10 ⟨Nat.le_of_ble_eq_true rfl, Nat.le_of_ble_eq_true rfl⟩ (fun ad' H locs hp hw => ?_)
  subst hp
  refine W.widen (k := 0) (n := 0) (by decide) (by decide) ?_
  have hz9 := (gz_some h).1
  replace h := (gz_some h).2
  cases h
  exact r_zret C hw rfl hz9 (by decide) (by decide) dX12_isHen_13
theorem mX12_isHen (l : Launch) (D : va_G) (T : Nat → ClassId) (ad : Nat → Nat)  (sz : Nat)   (v1 : Int32) (sg : Sg) (lg : Lg) {ro : Int32} {so : Sg} {lo : Lg} (h : fX12_isHen v1 sg lg = some (ro, so, lo)) : Met l yX12_isHen wsX12_isHen rmX12_isHen (PreZ ZM D vwCl T (tysM T) ad sg lg false [] [.ref (ad 0), .int v1] sz) (QI ZM D vwCl T (tysM T) (va_A (zwd ZM T ad sg lg) sz) (fun z => ad = z) ro so lo) 0 0 (va_A (zwd ZM T ad sg lg) sz) :=
  metZ [.ref (ad 0), .int v1] sz (by decide) rfl (Nat.le_of_ble_eq_true rfl) (fun p e s m below meth c ls C hw hl => tX12_isHen_0 C v1 sg lg _ _ _ hw hl h)
-- PeckYardModel.asks(I)I
def rmX12_asks : Room := { frames := 0, cells := 0, slots := 0, locals := 0 }
theorem kX12_asks_f7 : Cond.fieldLink RX12 7 "PeckYardModel" "s" "[I" ∈ wsX12_asks := by decide +kernel
theorem kX12_asks_iX12 : ∀ w ∈ u_ws RX12 TX12 18, w ∈ wsX12_asks := by decide +kernel
def fX12_asks  (v1 : Int32) (sg : Sg) (lg : Lg) : Option (Int32 × Sg × Lg) :=
  lt ((13 : Int32) + v1) (fun x1 => gin x1 193 (some ((sg 1 x1.toNatClampNeg), sg, lg)))
set_option maxHeartbeats 4000000 in
set_option maxRecDepth 100000 in
theorem tX12_asks_0 (C : Cx p s m args meth c cX12_asks 2 RX12 wsX12_asks (some .int) D vwCl (tysM T) A false []) {ro : Int32} {so : Sg} {lo : Lg}   : ∀ (v1 : Int32) (sg : Sg) (lg : Lg), ∀ (H : Heap) (locs : List Loc) (ls : Array Slot), WS ZM D vwCl T ad sg lg A s.heap H locs → lv_has ls 2 [(0, .ref (ad 0)), (1, .int v1)] → fX12_asks v1 sg lg = some (ro, so, lo) → W p l e rmX12_asks s m args below meth c H locs 0 0 (MQ below (QI ZM D vwCl T (tysM T) A (fun z => ad = z) ro so lo) args s 0 0 A) (F0 m 0 ls []) := by
  obtain ⟨⟨hx, hb, hml, hown, hts⟩, hr, hlk, hK, hA, hsp⟩ := id C
  intro v1 sg lg H locs ls hw hl h
  unfold fX12_asks at h
  refine lv_aload_n hx hb dX12_asks_0 rfl (lv_at hl 0 rfl) ?_
  refine r_getR (ci := 12) (C := RX12) (U := TX12) (N := 18) hx hb hts kX12_asks_iX12 hown hK hw 0 (by decide) rfl rfl 0 (by decide) 1 rfl (hts _ kX12_asks_f7) (fun _ h9 => h9) dX12_asks_1 ?_
  refine lv_bipush (v := (13 : Int32)) hx hb dX12_asks_4 (by decide) ?_
  refine lv_iload_n hx hb dX12_asks_6 rfl (lv_at hl 1 rfl) ?_
  refine lv_iadd hx hb dX12_asks_7 ?_
  refine lv_topi (fun x1 ex1 => ?_)
  replace h := lt_get h x1 ex1
  have hi2 := (gin_some h).1
  replace h := (gin_some h).2
  refine r_iald hx hb hK hw 1 0 193 (by decide) rfl rfl rfl hi2 dX12_asks_8 ?_
  cases h
  exact r_iret C hw rfl (by decide) (by decide) dX12_asks_9
theorem mX12_asks (l : Launch) (D : va_G) (T : Nat → ClassId) (ad : Nat → Nat)  (sz : Nat)   (v1 : Int32) (sg : Sg) (lg : Lg) {ro : Int32} {so : Sg} {lo : Lg} (h : fX12_asks v1 sg lg = some (ro, so, lo)) : Met l yX12_asks wsX12_asks rmX12_asks (PreZ ZM D vwCl T (tysM T) ad sg lg false [] [.ref (ad 0), .int v1] sz) (QI ZM D vwCl T (tysM T) (va_A (zwd ZM T ad sg lg) sz) (fun z => ad = z) ro so lo) 0 0 (va_A (zwd ZM T ad sg lg) sz) :=
  metZ [.ref (ad 0), .int v1] sz (by decide) rfl (Nat.le_of_ble_eq_true rfl) (fun p e s m below meth c ls C hw hl => tX12_asks_0 C v1 sg lg _ _ _ hw hl h)
end ZM
