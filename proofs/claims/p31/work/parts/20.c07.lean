section ZC
variable {p : Program} {l : Launch} {e : Env} {s : State} {m : MethodId} {args : Array Value} {below : List Frame} {meth : Method} {c : Code} {D : va_G} {T : Nat → ClassId} {A : Nat → Prop} {ad a : Nat → Nat} {lg : Lg}
-- PeckYard$Hand.append(I)V
def rmX5_append : Room := { frames := 0, cells := 0, slots := 0, locals := 0 }
theorem kX5_append_f15 : Cond.fieldLink RX5 15 "PeckYard$Hand" "size" "I" ∈ wsX5_append := by decide +kernel
theorem kX5_append_iX5 : ∀ w ∈ u_ws RX5 TX5 2, w ∈ wsX5_append := by decide +kernel
theorem kX5_append_f9 : Cond.fieldLink RX5 9 "PeckYard$Hand" "hens" "[I" ∈ wsX5_append := by decide +kernel
def fX5_append  (v1 : Int32) (sg : Sg) : Option (Sg) :=
  (if (12 : Int32) ≤ (sg 5 0) then some sg else gin (sg 5 0) 12 (lt (up2 sg 31 (sg 5 0).toNatClampNeg v1) (fun sg3 => lt ((sg3 5 0) + (1 : Int32)) (fun x4 => lt (up2 sg3 5 0 x4) (fun sg5 => some sg5)))))
set_option maxHeartbeats 4000000 in
set_option maxRecDepth 100000 in
theorem tX5_append_0 (C : Cx p s m args meth c cX5_append 2 RX5 wsX5_append none D vwCl (tysC T) A true nwL) {so : Sg}   : ∀ (v1 : Int32) (sg : Sg), ∀ (H : Heap) (locs : List Loc) (ls : Array Slot), WS ZC D vwCl T ad sg lg A s.heap H locs → lv_has ls 2 [(0, .ref (ad 5)), (1, .int v1)] → fX5_append v1 sg = some so → W p l e rmX5_append s m args below meth c H locs 0 0 (MQ below (QV ZC D vwCl T (tysC T) A (fun z => ad = z) so lg) args s 0 0 A) (F0 m 0 ls []) := by
  obtain ⟨⟨hx, hb, hml, hown, hts⟩, hr, hlk, hK, hA, hsp⟩ := id C
  intro v1 sg H locs ls hw hl h
  unfold fX5_append at h
  refine lv_aload_n hx hb dX5_append_0 rfl (lv_at hl 0 rfl) ?_
  refine r_getI (ci := 5) (C := RX5) (U := TX5) (N := 2) hx hb hts kX5_append_iX5 hown hK hw 5 (by decide) rfl rfl 0 (by decide) rfl (hts _ kX5_append_f15) (fun _ h9 => h9) dX5_append_1 ?_
  refine lv_bipush (v := (12 : Int32)) hx hb dX5_append_4 (by decide) ?_
  refine lv_icmp_ge (tgt := 29) hx hb dX5_append_6 (by decide) (fun c1 => ?_) (fun c1 => ?_)
  · replace h := ite_t h c1
    cases h
    exact r_vret C hw rfl (by decide) (by decide) dX5_append_29
  · replace h := ite_f h c1
    refine lv_aload_n hx hb dX5_append_9 rfl (lv_at hl 0 rfl) ?_
    refine r_getR (ci := 5) (C := RX5) (U := TX5) (N := 2) hx hb hts kX5_append_iX5 hown hK hw 5 (by decide) rfl rfl 1 (by decide) 31 rfl (hts _ kX5_append_f9) (fun _ h9 => h9) dX5_append_10 ?_
    refine lv_aload_n hx hb dX5_append_13 rfl (lv_at hl 0 rfl) ?_
    refine r_getI (ci := 5) (C := RX5) (U := TX5) (N := 2) hx hb hts kX5_append_iX5 hown hK hw 5 (by decide) rfl rfl 0 (by decide) rfl (hts _ kX5_append_f15) (fun _ h9 => h9) dX5_append_14 ?_
    refine lv_iload_n hx hb dX5_append_17 rfl (lv_at hl 1 rfl) ?_
    have hi2 := (gin_some h).1
    replace h := (gin_some h).2
    refine r_iast ZC_ok hx hb hK hw 31 0 12 (by decide) rfl rfl rfl hi2 dX5_append_18 (fun H locs sg3 esg3 hw => ?_)
    replace h := lt_get h sg3 esg3
    refine lv_aload_n hx hb dX5_append_19 rfl (lv_at hl 0 rfl) ?_
    refine lv_dup hx hb dX5_append_20 rfl ?_
    refine r_getI (ci := 5) (C := RX5) (U := TX5) (N := 2) hx hb hts kX5_append_iX5 hown hK hw 5 (by decide) rfl rfl 0 (by decide) rfl (hts _ kX5_append_f15) (fun _ h9 => h9) dX5_append_21 ?_
    refine lv_iconst (v := (1 : Int32)) hx hb dX5_append_24 (by decide) ?_
    refine lv_iadd hx hb dX5_append_25 ?_
    refine lv_topi (fun x4 ex4 => ?_)
    replace h := lt_get h x4 ex4
    refine r_putI ZC_ok (ci := 5) (C := RX5) (U := TX5) (N := 2) (ty := .int) hx hb hts kX5_append_iX5 tyX5 tyX5_ok nmX5 hown hK hw 5 (by decide) rfl rfl 0 (by decide) rfl (hts _ kX5_append_f15) (fun _ h9 => h9) rfl (by decide +kernel) rfl rfl dX5_append_26 (fun H locs sg5 esg5 hw => ?_)
    replace h := lt_get h sg5 esg5
    cases h
    exact r_vret C hw rfl (by decide) (by decide) dX5_append_29
theorem mX5_append (l : Launch) (D : va_G) (T : Nat → ClassId) (ad : Nat → Nat) (lg : Lg) (sz : Nat)   (v1 : Int32) (sg : Sg) {so : Sg} (h : fX5_append v1 sg = some so) : Met l yX5_append wsX5_append rmX5_append (PreZ ZC D vwCl T (tysC T) ad sg lg true nwL [.ref (ad 5), .int v1] sz) (QV ZC D vwCl T (tysC T) (va_A (zwd ZC T ad sg lg) sz) (fun z => ad = z) so lg) 0 0 (va_A (zwd ZC T ad sg lg) sz) :=
  metZ [.ref (ad 5), .int v1] sz (by decide) rfl (Nat.le_of_ble_eq_true rfl) (fun p e s m below meth c ls C hw hl => tX5_append_0 C v1 sg _ _ _ hw hl h)
-- PeckYard$Orders.bringInHand(JLPeckYard$Hand;)V
def rmX9_bringInHand : Room := { frames := 3, cells := 0, slots := 0, locals := 68 }
theorem kX9_bringInHand_f89 : Cond.fieldLink RX9 89 "PeckYard$Hand" "size" "I" ∈ wsX9_bringInHand := by decide +kernel
theorem kX9_bringInHand_iX5 : ∀ w ∈ u_ws RX5 TX5 2, w ∈ wsX9_bringInHand := by decide +kernel
theorem kX9_bringInHand_f38 : Cond.fieldLink RX9 38 "PeckYard$Orders" "muster" "LPeckYard$Muster;" ∈ wsX9_bringInHand := by decide +kernel
theorem kX9_bringInHand_iX9 : ∀ w ∈ u_ws RX9 TX9 11, w ∈ wsX9_bringInHand := by decide +kernel
theorem kX9_bringInHand_f82 : Cond.fieldLink RX9 82 "PeckYard$Muster" "size" "I" ∈ wsX9_bringInHand := by decide +kernel
theorem kX9_bringInHand_iX8 : ∀ w ∈ u_ws RX8 TX8 10, w ∈ wsX9_bringInHand := by decide +kernel
theorem kX9_bringInHand_f95 : Cond.fieldLink RX9 95 "PeckYard$Muster" "hens" "[I" ∈ wsX9_bringInHand := by decide +kernel
theorem kX9_bringInHand_ini_X11 : Cond.initialized "PeckYard" ∈ wsX9_bringInHand := by decide +kernel
theorem kX9_bringInHand_s85 : Cond.static yX11_isIn ∈ wsX9_bringInHand := by decide +kernel
theorem kX9_bringInHand_f25 : Cond.fieldLink RX9 25 "PeckYard$Orders" "ways" "[I" ∈ wsX9_bringInHand := by decide +kernel
def fX9_bringInHand_112 (r14 : (Int64 × Int32 × Int32 × Sg) → Option (Sg)) (v4 : Int64) (v6 : Int32) (v7 : Int32) (v9 : Int32) (sg : Sg) : Option (Sg) :=
  (if v9 = (-1 : Int32) then some sg else gin v9 12 (bnd1 (fX5_append (sg 17 v9.toNatClampNeg) sg) (fun sg3 => lt (v6 ||| ((1 : Int32) <<< (v9 &&& 31))) (fun x5 => lt (v7 + (1 : Int32)) (fun x6 => r14 (v4, x5, x6, sg3))))))
set_option maxHeartbeats 4000000 in
set_option maxRecDepth 100000 in
theorem tX9_bringInHand_112 (C : Cx p s m args meth c cX9_bringInHand 12 RX9 wsX9_bringInHand none D vwCl (tysC T) A true nwL) {so : Sg} {r14 : (Int64 × Int32 × Int32 × Sg) → Option (Sg)} (hr14 : ∀ (v4 : Int64) (v6 : Int32) (v7 : Int32) (sg : Sg), r14 (v4, v6, v7, sg) = some so → ∀ (H : Heap) (locs : List Loc) (ls : Array Slot), WS ZC D vwCl T ad sg lg A s.heap H locs → lv_has ls 12 [(0, .ref (ad 4)), (3, .ref (ad 5)), (4, .long v4), (6, .int v6), (7, .int v7)] → W p l e rmX9_bringInHand s m args below meth c H locs 0 0 (MQ below (QV ZC D vwCl T (tysC T) A (fun z => ad = z) so lg) args s 0 0 A) (F0 m 14 ls [])) : ∀ (v4 : Int64) (v6 : Int32) (v7 : Int32) (v9 : Int32) (sg : Sg), ∀ (H : Heap) (locs : List Loc) (ls : Array Slot), WS ZC D vwCl T ad sg lg A s.heap H locs → lv_has ls 12 [(0, .ref (ad 4)), (3, .ref (ad 5)), (4, .long v4), (6, .int v6), (7, .int v7), (9, .int v9)] → fX9_bringInHand_112 r14 v4 v6 v7 v9 sg = some so → W p l e rmX9_bringInHand s m args below meth c H locs 0 0 (MQ below (QV ZC D vwCl T (tysC T) A (fun z => ad = z) so lg) args s 0 0 A) (F0 m 112 ls []) := by
  obtain ⟨⟨hx, hb, hml, hown, hts⟩, hr, hlk, hK, hA, hsp⟩ := id C
  intro v4 v6 v7 v9 sg H locs ls hw hl h
  unfold fX9_bringInHand_112 at h
  refine lv_iload hx hb dX9_bringInHand_112 (lv_at hl 5 rfl) ?_
  refine lv_iconst (v := (-1 : Int32)) hx hb dX9_bringInHand_114 (by decide) ?_
  refine lv_icmp_ne (tgt := 119) hx hb dX9_bringInHand_115 (by decide) (fun c1 => ?_) (fun c1 => ?_)
  · replace h := ite_f h c1
    refine lv_aload_n hx hb dX9_bringInHand_119 rfl (lv_at hl 1 rfl) ?_
    refine lv_aload_n hx hb dX9_bringInHand_120 rfl (lv_at hl 0 rfl) ?_
    refine r_getR (ci := 9) (C := RX9) (U := TX9) (N := 11) hx hb hts kX9_bringInHand_iX9 hown hK hw 4 (by decide) rfl rfl 0 (by decide) 3 rfl (hts _ kX9_bringInHand_f38) (fun _ h9 => h9) dX9_bringInHand_121 ?_
    refine r_getR (ci := 8) (C := RX8) (U := TX8) (N := 10) hx hb hts kX9_bringInHand_iX8 hown hK hw 3 (by decide) rfl rfl 3 (by decide) 17 rfl (hts _ kX9_bringInHand_f95) (fun _ h9 => h9) dX9_bringInHand_124 ?_
    refine lv_iload hx hb dX9_bringInHand_127 (lv_at hl 5 rfl) ?_
    have hi2 := (gin_some h).1
    replace h := (gin_some h).2
    refine r_iald hx hb hK hw 17 0 12 (by decide) rfl rfl rfl hi2 dX9_bringInHand_129 ?_
    obtain ⟨sg3, hq4, h2⟩ := bnd1_some h
    replace h := h2
    clear h2
    refine r_cVv (As := [.int (sg 17 v9.toNatClampNeg)]) (rest := []) C hw 5 (by decide) (ci := 5) rfl rfl (mX5_append l D T ad lg H.size (sg 17 v9.toNatClampNeg) sg hq4) (cwV 1 hts gX9_bringInHand_X5_append rfl rfl rfl (by decide +kernel) ⟨Nat.le_of_ble_eq_true rfl, Nat.le_of_ble_eq_true rfl⟩) rfl hl.1 rfl (Nat.le_of_ble_eq_true rfl) dX9_bringInHand_130 ⟨Nat.le_of_ble_eq_true rfl, Nat.le_of_ble_eq_true rfl⟩ (fun ad' H locs hp hw => ?_)
    subst hp
    refine W.widen (k := 0) (n := 0) (by decide) (by decide) ?_
    refine lv_iload hx hb dX9_bringInHand_133 (lv_at hl 3 rfl) ?_
    refine lv_iconst (v := (1 : Int32)) hx hb dX9_bringInHand_135 (by decide) ?_
    refine lv_iload hx hb dX9_bringInHand_136 (lv_at hl 5 rfl) ?_
    refine lv_ishl hx hb dX9_bringInHand_138 ?_
    refine lv_ior hx hb dX9_bringInHand_139 ?_
    refine lv_topi (fun x5 ex5 => ?_)
    replace h := lt_get h x5 ex5
    refine lv_istore (lv' := [(6, .int x5), (0, .ref (ad 4)), (3, .ref (ad 5)), (4, .long v4), (7, .int v7), (9, .int v9)]) hx hb dX9_bringInHand_140 hl (by decide) rfl (fun ls hl => ?_)
    obtain ⟨x6, ex6⟩ : ∃ z : Int32, z = (v7 + (1 : Int32)) := ⟨_, rfl⟩
    replace h := lt_get h x6 ex6
    refine lv_iinc (v := x6) (lv' := [(7, .int x6), (6, .int x5), (0, .ref (ad 4)), (3, .ref (ad 5)), (4, .long v4), (9, .int v9)]) hx hb dX9_bringInHand_142 hl (k := 4) rfl (by rw [ex6]; rfl) (by decide) rfl (fun ls hl => ?_)
    refine lv_goto (tgt := 14) hx hb dX9_bringInHand_145 (by decide) ?_
    exact hr14 v4 x5 x6 sg3 h _ _ _ hw (lv_sub hl [2, 3, 4, 1, 0] rfl)
  · replace h := ite_t h c1
    cases h
    exact r_vret C hw rfl (by decide) (by decide) dX9_bringInHand_118
def fX9_bringInHand_106 (r14 : (Int64 × Int32 × Int32 × Sg) → Option (Sg)) (r40 : (Int64 × Int32 × Int32 × Int32 × Int32 × Int32 × Sg) → Option (Sg)) (v4 : Int64) (v6 : Int32) (v7 : Int32) (v8 : Int32) (v9 : Int32) (v10 : Int32) (sg : Sg) : Option (Sg) :=
  lt (v10 + (1 : Int32)) (fun x1 => r40 (v4, v6, v7, v8, v9, x1, sg))
set_option maxHeartbeats 4000000 in
set_option maxRecDepth 100000 in
theorem tX9_bringInHand_106 (C : Cx p s m args meth c cX9_bringInHand 12 RX9 wsX9_bringInHand none D vwCl (tysC T) A true nwL) {so : Sg} {r14 : (Int64 × Int32 × Int32 × Sg) → Option (Sg)} {r40 : (Int64 × Int32 × Int32 × Int32 × Int32 × Int32 × Sg) → Option (Sg)} (hr14 : ∀ (v4 : Int64) (v6 : Int32) (v7 : Int32) (sg : Sg), r14 (v4, v6, v7, sg) = some so → ∀ (H : Heap) (locs : List Loc) (ls : Array Slot), WS ZC D vwCl T ad sg lg A s.heap H locs → lv_has ls 12 [(0, .ref (ad 4)), (3, .ref (ad 5)), (4, .long v4), (6, .int v6), (7, .int v7)] → W p l e rmX9_bringInHand s m args below meth c H locs 0 0 (MQ below (QV ZC D vwCl T (tysC T) A (fun z => ad = z) so lg) args s 0 0 A) (F0 m 14 ls [])) (hr40 : ∀ (v4 : Int64) (v6 : Int32) (v7 : Int32) (v8 : Int32) (v9 : Int32) (v10 : Int32) (sg : Sg), r40 (v4, v6, v7, v8, v9, v10, sg) = some so → ∀ (H : Heap) (locs : List Loc) (ls : Array Slot), WS ZC D vwCl T ad sg lg A s.heap H locs → lv_has ls 12 [(0, .ref (ad 4)), (3, .ref (ad 5)), (4, .long v4), (6, .int v6), (7, .int v7), (8, .int v8), (9, .int v9), (10, .int v10)] → W p l e rmX9_bringInHand s m args below meth c H locs 0 0 (MQ below (QV ZC D vwCl T (tysC T) A (fun z => ad = z) so lg) args s 0 0 A) (F0 m 40 ls [])) : ∀ (v4 : Int64) (v6 : Int32) (v7 : Int32) (v8 : Int32) (v9 : Int32) (v10 : Int32) (sg : Sg), ∀ (H : Heap) (locs : List Loc) (ls : Array Slot), WS ZC D vwCl T ad sg lg A s.heap H locs → lv_has ls 12 [(0, .ref (ad 4)), (3, .ref (ad 5)), (4, .long v4), (6, .int v6), (7, .int v7), (8, .int v8), (9, .int v9), (10, .int v10)] → fX9_bringInHand_106 r14 r40 v4 v6 v7 v8 v9 v10 sg = some so → W p l e rmX9_bringInHand s m args below meth c H locs 0 0 (MQ below (QV ZC D vwCl T (tysC T) A (fun z => ad = z) so lg) args s 0 0 A) (F0 m 106 ls []) := by
  obtain ⟨⟨hx, hb, hml, hown, hts⟩, hr, hlk, hK, hA, hsp⟩ := id C
  intro v4 v6 v7 v8 v9 v10 sg H locs ls hw hl h
  unfold fX9_bringInHand_106 at h
  obtain ⟨x1, ex1⟩ : ∃ z : Int32, z = (v10 + (1 : Int32)) := ⟨_, rfl⟩
  replace h := lt_get h x1 ex1
  refine lv_iinc (v := x1) (lv' := [(10, .int x1), (0, .ref (ad 4)), (3, .ref (ad 5)), (4, .long v4), (6, .int v6), (7, .int v7), (8, .int v8), (9, .int v9)]) hx hb dX9_bringInHand_106 hl (k := 7) rfl (by rw [ex1]; rfl) (by decide) rfl (fun ls hl => ?_)
  refine lv_goto (tgt := 40) hx hb dX9_bringInHand_109 (by decide) ?_
  exact hr40 v4 v6 v7 v8 v9 x1 sg h _ _ _ hw (lv_sub hl [1, 2, 3, 4, 5, 6, 7, 0] rfl)
def fX9_bringInHand_40 (r14 : (Int64 × Int32 × Int32 × Sg) → Option (Sg)) (r40 : (Int64 × Int32 × Int32 × Int32 × Int32 × Int32 × Sg) → Option (Sg)) (v4 : Int64) (v6 : Int32) (v7 : Int32) (v8 : Int32) (v9 : Int32) (v10 : Int32) (sg : Sg) : Option (Sg) :=
  (if (sg 3 2) ≤ v10 then fX9_bringInHand_112 r14 v4 v6 v7 v9 sg else (if v9 = (-1 : Int32) then bnd2 (fX11_isIn v8 v10 sg) (fun y3 sg4 => (if y3 = 0 then fX9_bringInHand_106 r14 r40 v4 v6 v7 v8 v9 v10 sg4 else lt (v6 ||| ((1 : Int32) <<< (v10 &&& 31))) (fun x8 => gin x8 ((sg4 99 64).toNatClampNeg) (lt (sg4 64 x8.toNatClampNeg) (fun x10 => (if x10.toInt64 ≤ v4 then lt (v4 - x10.toInt64) (fun x12 => fX9_bringInHand_106 r14 r40 x12 v6 v7 v8 v9 v10 sg4) else fX9_bringInHand_106 r14 r40 v4 v6 v7 v8 v10 v10 sg4)))))) else fX9_bringInHand_112 r14 v4 v6 v7 v9 sg))
set_option maxHeartbeats 4000000 in
set_option maxRecDepth 100000 in
theorem tX9_bringInHand_40 (C : Cx p s m args meth c cX9_bringInHand 12 RX9 wsX9_bringInHand none D vwCl (tysC T) A true nwL) {so : Sg} {r14 : (Int64 × Int32 × Int32 × Sg) → Option (Sg)} {r40 : (Int64 × Int32 × Int32 × Int32 × Int32 × Int32 × Sg) → Option (Sg)} (hr14 : ∀ (v4 : Int64) (v6 : Int32) (v7 : Int32) (sg : Sg), r14 (v4, v6, v7, sg) = some so → ∀ (H : Heap) (locs : List Loc) (ls : Array Slot), WS ZC D vwCl T ad sg lg A s.heap H locs → lv_has ls 12 [(0, .ref (ad 4)), (3, .ref (ad 5)), (4, .long v4), (6, .int v6), (7, .int v7)] → W p l e rmX9_bringInHand s m args below meth c H locs 0 0 (MQ below (QV ZC D vwCl T (tysC T) A (fun z => ad = z) so lg) args s 0 0 A) (F0 m 14 ls [])) (hr40 : ∀ (v4 : Int64) (v6 : Int32) (v7 : Int32) (v8 : Int32) (v9 : Int32) (v10 : Int32) (sg : Sg), r40 (v4, v6, v7, v8, v9, v10, sg) = some so → ∀ (H : Heap) (locs : List Loc) (ls : Array Slot), WS ZC D vwCl T ad sg lg A s.heap H locs → lv_has ls 12 [(0, .ref (ad 4)), (3, .ref (ad 5)), (4, .long v4), (6, .int v6), (7, .int v7), (8, .int v8), (9, .int v9), (10, .int v10)] → W p l e rmX9_bringInHand s m args below meth c H locs 0 0 (MQ below (QV ZC D vwCl T (tysC T) A (fun z => ad = z) so lg) args s 0 0 A) (F0 m 40 ls [])) : ∀ (v4 : Int64) (v6 : Int32) (v7 : Int32) (v8 : Int32) (v9 : Int32) (v10 : Int32) (sg : Sg), ∀ (H : Heap) (locs : List Loc) (ls : Array Slot), WS ZC D vwCl T ad sg lg A s.heap H locs → lv_has ls 12 [(0, .ref (ad 4)), (3, .ref (ad 5)), (4, .long v4), (6, .int v6), (7, .int v7), (8, .int v8), (9, .int v9), (10, .int v10)] → fX9_bringInHand_40 r14 r40 v4 v6 v7 v8 v9 v10 sg = some so → W p l e rmX9_bringInHand s m args below meth c H locs 0 0 (MQ below (QV ZC D vwCl T (tysC T) A (fun z => ad = z) so lg) args s 0 0 A) (F0 m 40 ls []) := by
  obtain ⟨⟨hx, hb, hml, hown, hts⟩, hr, hlk, hK, hA, hsp⟩ := id C
  intro v4 v6 v7 v8 v9 v10 sg H locs ls hw hl h
  unfold fX9_bringInHand_40 at h
  refine lv_iload hx hb dX9_bringInHand_40 (lv_at hl 7 rfl) ?_
  refine lv_aload_n hx hb dX9_bringInHand_42 rfl (lv_at hl 0 rfl) ?_
  refine r_getR (ci := 9) (C := RX9) (U := TX9) (N := 11) hx hb hts kX9_bringInHand_iX9 hown hK hw 4 (by decide) rfl rfl 0 (by decide) 3 rfl (hts _ kX9_bringInHand_f38) (fun _ h9 => h9) dX9_bringInHand_43 ?_
  refine r_getI (ci := 8) (C := RX8) (U := TX8) (N := 10) hx hb hts kX9_bringInHand_iX8 hown hK hw 3 (by decide) rfl rfl 2 (by decide) rfl (hts _ kX9_bringInHand_f82) (fun _ h9 => h9) dX9_bringInHand_46 ?_
  refine lv_icmp_ge (tgt := 112) hx hb dX9_bringInHand_49 (by decide) (fun c1 => ?_) (fun c1 => ?_)
  · replace h := ite_t h c1
    exact tX9_bringInHand_112 C hr14 v4 v6 v7 v9 sg _ _ _ hw (lv_sub hl [0, 1, 2, 3, 4, 6] rfl) h
  · replace h := ite_f h c1
    refine lv_iload hx hb dX9_bringInHand_52 (lv_at hl 6 rfl) ?_
    refine lv_iconst (v := (-1 : Int32)) hx hb dX9_bringInHand_54 (by decide) ?_
    refine lv_icmp_ne (tgt := 112) hx hb dX9_bringInHand_55 (by decide) (fun c2 => ?_) (fun c2 => ?_)
    · replace h := ite_f h c2
      exact tX9_bringInHand_112 C hr14 v4 v6 v7 v9 sg _ _ _ hw (lv_sub hl [0, 1, 2, 3, 4, 6] rfl) h
    · replace h := ite_t h c2
      refine lv_iload hx hb dX9_bringInHand_58 (lv_at hl 5 rfl) ?_
      refine lv_iload hx hb dX9_bringInHand_60 (lv_at hl 7 rfl) ?_
      obtain ⟨y3, sg4, hq5, h2⟩ := bnd2_some h
      replace h := h2
      clear h2
      obtain ⟨-, -, hmt6⟩ := hsp rfl
      refine r_cNi (As := [.int v8, .int v10]) (rest := []) C hw (mX11_isIn l D T ad lg H.size v8 v10 sg hq5) ⟨va_cnB (host := "PeckYard") 2 hts gX9_bringInHand_X11_isIn_n85 rfl rfl rfl (hmt6 _ nw_X9_85) (hts _ kX9_bringInHand_ini_X11) (by decide +kernel) ⟨Nat.le_of_ble_eq_true rfl, Nat.le_of_ble_eq_true rfl⟩, (hts _ kX9_bringInHand_s85), trivial⟩ rfl hl.1 rfl (Nat.le_of_ble_eq_true rfl) dX9_bringInHand_62 ⟨Nat.le_of_ble_eq_true rfl, Nat.le_of_ble_eq_true rfl⟩ (fun ad' H locs hp hw => ?_)
      subst hp
      refine W.widen (k := 0) (n := 0) (by decide) (by decide) ?_
      refine lv_if_eq (tgt := 106) hx hb dX9_bringInHand_65 (by decide) (fun c7 => ?_) (fun c7 => ?_)
      · replace h := ite_t h c7
        exact tX9_bringInHand_106 C hr14 hr40 v4 v6 v7 v8 v9 v10 sg4 _ _ _ hw (lv_sub hl [0, 1, 2, 3, 4, 5, 6, 7] rfl) h
      · replace h := ite_f h c7
        refine lv_aload_n hx hb dX9_bringInHand_68 rfl (lv_at hl 0 rfl) ?_
        refine r_getR (ci := 9) (C := RX9) (U := TX9) (N := 11) hx hb hts kX9_bringInHand_iX9 hown hK hw 4 (by decide) rfl rfl 7 (by decide) 64 rfl (hts _ kX9_bringInHand_f25) (fun _ h9 => h9) dX9_bringInHand_69 ?_
        refine lv_iload hx hb dX9_bringInHand_72 (lv_at hl 3 rfl) ?_
        refine lv_iconst (v := (1 : Int32)) hx hb dX9_bringInHand_74 (by decide) ?_
        refine lv_iload hx hb dX9_bringInHand_75 (lv_at hl 7 rfl) ?_
        refine lv_ishl hx hb dX9_bringInHand_77 ?_
        refine lv_ior hx hb dX9_bringInHand_78 ?_
        refine lv_topi (fun x8 ex8 => ?_)
        replace h := lt_get h x8 ex8
        have hi9 := (gin_some h).1
        replace h := (gin_some h).2
        refine r_iald hx hb hK hw 64 0 ((sg4 99 64).toNatClampNeg) (by decide) rfl rfl rfl hi9 dX9_bringInHand_79 ?_
        refine lv_topi (fun x10 ex10 => ?_)
        replace h := lt_get h x10 ex10
        refine lv_istore (lv' := [(11, .int x10), (0, .ref (ad 4)), (3, .ref (ad 5)), (4, .long v4), (6, .int v6), (7, .int v7), (8, .int v8), (9, .int v9), (10, .int v10)]) hx hb dX9_bringInHand_80 hl (by decide) rfl (fun ls hl => ?_)
        refine lv_lload hx hb dX9_bringInHand_82 (lv_at hl 3 rfl) ?_
        refine lv_iload hx hb dX9_bringInHand_84 (lv_at hl 0 rfl) ?_
        refine lv_i2l (v := x10.toInt64) hx hb dX9_bringInHand_86 rfl ?_
        refine W.lcmp hx hb dX9_bringInHand_87 ?_
        refine lv_if_ge (tgt := 98) hx hb dX9_bringInHand_88 (by decide) (fun c11 => ?_) (fun c11 => ?_)
        · replace h := ite_t h ((lg_cmp_ge _ _).mp c11)
          refine lv_lload hx hb dX9_bringInHand_98 (lv_at hl 3 rfl) ?_
          refine lv_iload hx hb dX9_bringInHand_100 (lv_at hl 0 rfl) ?_
          refine lv_i2l (v := x10.toInt64) hx hb dX9_bringInHand_102 rfl ?_
          refine lv_lsub hx hb dX9_bringInHand_103 ?_
          refine lv_topl (fun x12 ex12 => ?_)
          replace h := lt_get h x12 ex12
          refine lv_lstore (lv' := [(4, .long x12), (11, .int x10), (0, .ref (ad 4)), (3, .ref (ad 5)), (6, .int v6), (7, .int v7), (8, .int v8), (9, .int v9), (10, .int v10)]) hx hb dX9_bringInHand_104 hl (by decide) rfl (fun ls hl => ?_)
          exact tX9_bringInHand_106 C hr14 hr40 x12 v6 v7 v8 v9 v10 sg4 _ _ _ hw (lv_sub hl [2, 3, 0, 4, 5, 6, 7, 8] rfl) h
        · replace h := ite_f h (fun z => c11 ((lg_cmp_ge _ _).mpr z))
          refine lv_iload hx hb dX9_bringInHand_91 (lv_at hl 8 rfl) ?_
          refine lv_istore (lv' := [(9, .int v10), (11, .int x10), (0, .ref (ad 4)), (3, .ref (ad 5)), (4, .long v4), (6, .int v6), (7, .int v7), (8, .int v8), (10, .int v10)]) hx hb dX9_bringInHand_93 hl (by decide) rfl (fun ls hl => ?_)
          refine lv_goto (tgt := 106) hx hb dX9_bringInHand_95 (by decide) ?_
          exact tX9_bringInHand_106 C hr14 hr40 v4 v6 v7 v8 v10 v10 sg4 _ _ _ hw (lv_sub hl [2, 3, 4, 5, 6, 7, 0, 8] rfl) h
def LX9_bringInHand_40 (r14 : (Int64 × Int32 × Int32 × Sg) → Option (Sg)) : (Int64 × Int32 × Int32 × Int32 × Int32 × Int32 × Sg) → Option (Sg) := loop (fun rec z => fX9_bringInHand_40 r14 rec z.1 z.2.1 z.2.2.1 z.2.2.2.1 z.2.2.2.2.1 z.2.2.2.2.2.1 z.2.2.2.2.2.2)
theorem TX9_bringInHand_40 (C : Cx p s m args meth c cX9_bringInHand 12 RX9 wsX9_bringInHand none D vwCl (tysC T) A true nwL) {so : Sg} {r14 : (Int64 × Int32 × Int32 × Sg) → Option (Sg)} (hr14 : ∀ (v4 : Int64) (v6 : Int32) (v7 : Int32) (sg : Sg), r14 (v4, v6, v7, sg) = some so → ∀ (H : Heap) (locs : List Loc) (ls : Array Slot), WS ZC D vwCl T ad sg lg A s.heap H locs → lv_has ls 12 [(0, .ref (ad 4)), (3, .ref (ad 5)), (4, .long v4), (6, .int v6), (7, .int v7)] → W p l e rmX9_bringInHand s m args below meth c H locs 0 0 (MQ below (QV ZC D vwCl T (tysC T) A (fun z => ad = z) so lg) args s 0 0 A) (F0 m 14 ls [])) : ∀ (v4 : Int64) (v6 : Int32) (v7 : Int32) (v8 : Int32) (v9 : Int32) (v10 : Int32) (sg : Sg), LX9_bringInHand_40 r14 (v4, v6, v7, v8, v9, v10, sg) = some so → ∀ (H : Heap) (locs : List Loc) (ls : Array Slot), WS ZC D vwCl T ad sg lg A s.heap H locs → lv_has ls 12 [(0, .ref (ad 4)), (3, .ref (ad 5)), (4, .long v4), (6, .int v6), (7, .int v7), (8, .int v8), (9, .int v9), (10, .int v10)] → W p l e rmX9_bringInHand s m args below meth c H locs 0 0 (MQ below (QV ZC D vwCl T (tysC T) A (fun z => ad = z) so lg) args s 0 0 A) (F0 m 40 ls []) := by
  have key : ∀ z : (Int64 × Int32 × Int32 × Int32 × Int32 × Int32 × Sg), LX9_bringInHand_40 r14 z = some so → ∀ (H : Heap) (locs : List Loc) (ls : Array Slot), WS ZC D vwCl T ad z.2.2.2.2.2.2 lg A s.heap H locs → lv_has ls 12 [(0, .ref (ad 4)), (3, .ref (ad 5)), (4, .long z.1), (6, .int z.2.1), (7, .int z.2.2.1), (8, .int z.2.2.2.1), (9, .int z.2.2.2.2.1), (10, .int z.2.2.2.2.2.1)] → W p l e rmX9_bringInHand s m args below meth c H locs 0 0 (MQ below (QV ZC D vwCl T (tysC T) A (fun z => ad = z) so lg) args s 0 0 A) (F0 m 40 ls []) := by
    intro z h
    unfold LX9_bringInHand_40 at h
    exact loop_ind (fun rec z => fX9_bringInHand_40 r14 rec z.1 z.2.1 z.2.2.1 z.2.2.2.1 z.2.2.2.2.1 z.2.2.2.2.2.1 z.2.2.2.2.2.2) (y := so) (P := fun z => ∀ (H : Heap) (locs : List Loc) (ls : Array Slot), WS ZC D vwCl T ad z.2.2.2.2.2.2 lg A s.heap H locs → lv_has ls 12 [(0, .ref (ad 4)), (3, .ref (ad 5)), (4, .long z.1), (6, .int z.2.1), (7, .int z.2.2.1), (8, .int z.2.2.2.1), (9, .int z.2.2.2.2.1), (10, .int z.2.2.2.2.2.1)] → W p l e rmX9_bringInHand s m args below meth c H locs 0 0 (MQ below (QV ZC D vwCl T (tysC T) A (fun z => ad = z) so lg) args s 0 0 A) (F0 m 40 ls [])) (fun rec hrec z h H locs ls hw hl => tX9_bringInHand_40 C hr14 (fun v4 v6 v7 v8 v9 v10 sg => hrec (v4, v6, v7, v8, v9, v10, sg)) z.1 z.2.1 z.2.2.1 z.2.2.2.1 z.2.2.2.2.1 z.2.2.2.2.2.1 z.2.2.2.2.2.2 H locs ls hw hl h) z h
  exact fun v4 v6 v7 v8 v9 v10 sg => key (v4, v6, v7, v8, v9, v10, sg)
def fX9_bringInHand_14 (r14 : (Int64 × Int32 × Int32 × Sg) → Option (Sg)) (v4 : Int64) (v6 : Int32) (v7 : Int32) (sg : Sg) : Option (Sg) :=
  (if (sg 3 2) ≤ v7 then some sg else bnd2 (fX9_bestChoices v6 sg) (fun y2 sg3 => LX9_bringInHand_40 r14 (v4, v6, v7, y2, (-1 : Int32), (0 : Int32), sg3)))
set_option maxHeartbeats 4000000 in
set_option maxRecDepth 100000 in
theorem tX9_bringInHand_14 (C : Cx p s m args meth c cX9_bringInHand 12 RX9 wsX9_bringInHand none D vwCl (tysC T) A true nwL) {so : Sg} {r14 : (Int64 × Int32 × Int32 × Sg) → Option (Sg)} (hr14 : ∀ (v4 : Int64) (v6 : Int32) (v7 : Int32) (sg : Sg), r14 (v4, v6, v7, sg) = some so → ∀ (H : Heap) (locs : List Loc) (ls : Array Slot), WS ZC D vwCl T ad sg lg A s.heap H locs → lv_has ls 12 [(0, .ref (ad 4)), (3, .ref (ad 5)), (4, .long v4), (6, .int v6), (7, .int v7)] → W p l e rmX9_bringInHand s m args below meth c H locs 0 0 (MQ below (QV ZC D vwCl T (tysC T) A (fun z => ad = z) so lg) args s 0 0 A) (F0 m 14 ls [])) : ∀ (v4 : Int64) (v6 : Int32) (v7 : Int32) (sg : Sg), ∀ (H : Heap) (locs : List Loc) (ls : Array Slot), WS ZC D vwCl T ad sg lg A s.heap H locs → lv_has ls 12 [(0, .ref (ad 4)), (3, .ref (ad 5)), (4, .long v4), (6, .int v6), (7, .int v7)] → fX9_bringInHand_14 r14 v4 v6 v7 sg = some so → W p l e rmX9_bringInHand s m args below meth c H locs 0 0 (MQ below (QV ZC D vwCl T (tysC T) A (fun z => ad = z) so lg) args s 0 0 A) (F0 m 14 ls []) := by
  obtain ⟨⟨hx, hb, hml, hown, hts⟩, hr, hlk, hK, hA, hsp⟩ := id C
  intro v4 v6 v7 sg H locs ls hw hl h
  unfold fX9_bringInHand_14 at h
  refine lv_iload hx hb dX9_bringInHand_14 (lv_at hl 4 rfl) ?_
  refine lv_aload_n hx hb dX9_bringInHand_16 rfl (lv_at hl 0 rfl) ?_
  refine r_getR (ci := 9) (C := RX9) (U := TX9) (N := 11) hx hb hts kX9_bringInHand_iX9 hown hK hw 4 (by decide) rfl rfl 0 (by decide) 3 rfl (hts _ kX9_bringInHand_f38) (fun _ h9 => h9) dX9_bringInHand_17 ?_
  refine r_getI (ci := 8) (C := RX8) (U := TX8) (N := 10) hx hb hts kX9_bringInHand_iX8 hown hK hw 3 (by decide) rfl rfl 2 (by decide) rfl (hts _ kX9_bringInHand_f82) (fun _ h9 => h9) dX9_bringInHand_20 ?_
  refine lv_icmp_ge (tgt := 148) hx hb dX9_bringInHand_23 (by decide) (fun c1 => ?_) (fun c1 => ?_)
  · replace h := ite_t h c1
    cases h
    exact r_vret C hw rfl (by decide) (by decide) dX9_bringInHand_148
  · replace h := ite_f h c1
    refine lv_aload_n hx hb dX9_bringInHand_26 rfl (lv_at hl 0 rfl) ?_
    refine lv_iload hx hb dX9_bringInHand_27 (lv_at hl 3 rfl) ?_
    obtain ⟨y2, sg3, hq4, h2⟩ := bnd2_some h
    replace h := h2
    clear h2
    refine r_cVi (As := [.int v6]) (rest := []) C hw 4 (by decide) (ci := 9) rfl rfl (mX9_bestChoices l D T ad lg H.size v6 sg hq4) (cwV 1 hts gX9_bringInHand_X9_bestChoices rfl rfl rfl (by decide +kernel) ⟨Nat.le_of_ble_eq_true rfl, Nat.le_of_ble_eq_true rfl⟩) rfl hl.1 rfl (Nat.le_of_ble_eq_true rfl) dX9_bringInHand_29 ⟨Nat.le_of_ble_eq_true rfl, Nat.le_of_ble_eq_true rfl⟩ (fun ad' H locs hp hw => ?_)
    subst hp
    refine W.widen (k := 0) (n := 0) (by decide) (by decide) ?_
    refine lv_istore (lv' := [(8, .int y2), (0, .ref (ad 4)), (3, .ref (ad 5)), (4, .long v4), (6, .int v6), (7, .int v7)]) hx hb dX9_bringInHand_32 hl (by decide) rfl (fun ls hl => ?_)
    refine lv_iconst (v := (-1 : Int32)) hx hb dX9_bringInHand_34 (by decide) ?_
    refine lv_istore (lv' := [(9, .int (-1 : Int32)), (8, .int y2), (0, .ref (ad 4)), (3, .ref (ad 5)), (4, .long v4), (6, .int v6), (7, .int v7)]) hx hb dX9_bringInHand_35 hl (by decide) rfl (fun ls hl => ?_)
    refine lv_iconst (v := (0 : Int32)) hx hb dX9_bringInHand_37 (by decide) ?_
    refine lv_istore (lv' := [(10, .int (0 : Int32)), (9, .int (-1 : Int32)), (8, .int y2), (0, .ref (ad 4)), (3, .ref (ad 5)), (4, .long v4), (6, .int v6), (7, .int v7)]) hx hb dX9_bringInHand_38 hl (by decide) rfl (fun ls hl => ?_)
    exact TX9_bringInHand_40 C hr14 v4 v6 v7 y2 (-1 : Int32) (0 : Int32) sg3 h _ _ _ hw (lv_sub hl [3, 4, 5, 6, 7, 2, 1, 0] rfl)
def LX9_bringInHand_14  : (Int64 × Int32 × Int32 × Sg) → Option (Sg) := loop (fun rec z => fX9_bringInHand_14 rec z.1 z.2.1 z.2.2.1 z.2.2.2)
theorem TX9_bringInHand_14 (C : Cx p s m args meth c cX9_bringInHand 12 RX9 wsX9_bringInHand none D vwCl (tysC T) A true nwL) {so : Sg}   : ∀ (v4 : Int64) (v6 : Int32) (v7 : Int32) (sg : Sg), LX9_bringInHand_14 (v4, v6, v7, sg) = some so → ∀ (H : Heap) (locs : List Loc) (ls : Array Slot), WS ZC D vwCl T ad sg lg A s.heap H locs → lv_has ls 12 [(0, .ref (ad 4)), (3, .ref (ad 5)), (4, .long v4), (6, .int v6), (7, .int v7)] → W p l e rmX9_bringInHand s m args below meth c H locs 0 0 (MQ below (QV ZC D vwCl T (tysC T) A (fun z => ad = z) so lg) args s 0 0 A) (F0 m 14 ls []) := by
  have key : ∀ z : (Int64 × Int32 × Int32 × Sg), LX9_bringInHand_14  z = some so → ∀ (H : Heap) (locs : List Loc) (ls : Array Slot), WS ZC D vwCl T ad z.2.2.2 lg A s.heap H locs → lv_has ls 12 [(0, .ref (ad 4)), (3, .ref (ad 5)), (4, .long z.1), (6, .int z.2.1), (7, .int z.2.2.1)] → W p l e rmX9_bringInHand s m args below meth c H locs 0 0 (MQ below (QV ZC D vwCl T (tysC T) A (fun z => ad = z) so lg) args s 0 0 A) (F0 m 14 ls []) := by
    intro z h
    unfold LX9_bringInHand_14 at h
    exact loop_ind (fun rec z => fX9_bringInHand_14 rec z.1 z.2.1 z.2.2.1 z.2.2.2) (y := so) (P := fun z => ∀ (H : Heap) (locs : List Loc) (ls : Array Slot), WS ZC D vwCl T ad z.2.2.2 lg A s.heap H locs → lv_has ls 12 [(0, .ref (ad 4)), (3, .ref (ad 5)), (4, .long z.1), (6, .int z.2.1), (7, .int z.2.2.1)] → W p l e rmX9_bringInHand s m args below meth c H locs 0 0 (MQ below (QV ZC D vwCl T (tysC T) A (fun z => ad = z) so lg) args s 0 0 A) (F0 m 14 ls [])) (fun rec hrec z h H locs ls hw hl => tX9_bringInHand_14 C  (fun v4 v6 v7 sg => hrec (v4, v6, v7, sg)) z.1 z.2.1 z.2.2.1 z.2.2.2 H locs ls hw hl h) z h
  exact fun v4 v6 v7 sg => key (v4, v6, v7, sg)
def fX9_bringInHand  (v1 : Int64) (sg : Sg) : Option (Sg) :=
  lt (up2 sg 5 0 (0 : Int32)) (fun sg1 => LX9_bringInHand_14 (v1, (0 : Int32), (0 : Int32), sg1))
set_option maxHeartbeats 4000000 in
set_option maxRecDepth 100000 in
theorem tX9_bringInHand_0 (C : Cx p s m args meth c cX9_bringInHand 12 RX9 wsX9_bringInHand none D vwCl (tysC T) A true nwL) {so : Sg}   : ∀ (v1 : Int64) (sg : Sg), ∀ (H : Heap) (locs : List Loc) (ls : Array Slot), WS ZC D vwCl T ad sg lg A s.heap H locs → lv_has ls 12 [(0, .ref (ad 4)), (1, .long v1), (3, .ref (ad 5))] → fX9_bringInHand v1 sg = some so → W p l e rmX9_bringInHand s m args below meth c H locs 0 0 (MQ below (QV ZC D vwCl T (tysC T) A (fun z => ad = z) so lg) args s 0 0 A) (F0 m 0 ls []) := by
  obtain ⟨⟨hx, hb, hml, hown, hts⟩, hr, hlk, hK, hA, hsp⟩ := id C
  intro v1 sg H locs ls hw hl h
  unfold fX9_bringInHand at h
  refine lv_lload_n hx hb dX9_bringInHand_0 rfl (lv_at hl 1 rfl) ?_
  refine lv_lstore (lv' := [(4, .long v1), (0, .ref (ad 4)), (1, .long v1), (3, .ref (ad 5))]) hx hb dX9_bringInHand_1 hl (by decide) rfl (fun ls hl => ?_)
  refine lv_iconst (v := (0 : Int32)) hx hb dX9_bringInHand_3 (by decide) ?_
  refine lv_istore (lv' := [(6, .int (0 : Int32)), (4, .long v1), (0, .ref (ad 4)), (1, .long v1), (3, .ref (ad 5))]) hx hb dX9_bringInHand_4 hl (by decide) rfl (fun ls hl => ?_)
  refine lv_aload_n hx hb dX9_bringInHand_6 rfl (lv_at hl 4 rfl) ?_
  refine lv_iconst (v := (0 : Int32)) hx hb dX9_bringInHand_7 (by decide) ?_
  refine r_putI ZC_ok (ci := 5) (C := RX5) (U := TX5) (N := 2) (ty := .int) hx hb hts kX9_bringInHand_iX5 tyX5 tyX5_ok nmX5 hown hK hw 5 (by decide) rfl rfl 0 (by decide) rfl (hts _ kX9_bringInHand_f89) (fun _ h9 => h9) rfl (by decide +kernel) rfl rfl dX9_bringInHand_8 (fun H locs sg1 esg1 hw => ?_)
  replace h := lt_get h sg1 esg1
  refine lv_iconst (v := (0 : Int32)) hx hb dX9_bringInHand_11 (by decide) ?_
  refine lv_istore (lv' := [(7, .int (0 : Int32)), (6, .int (0 : Int32)), (4, .long v1), (0, .ref (ad 4)), (1, .long v1), (3, .ref (ad 5))]) hx hb dX9_bringInHand_12 hl (by decide) rfl (fun ls hl => ?_)
  exact TX9_bringInHand_14 C v1 (0 : Int32) (0 : Int32) sg1 h _ _ _ hw (lv_sub hl [3, 5, 2, 1, 0] rfl)
theorem mX9_bringInHand (l : Launch) (D : va_G) (T : Nat → ClassId) (ad : Nat → Nat) (lg : Lg) (sz : Nat)   (v1 : Int64) (sg : Sg) {so : Sg} (h : fX9_bringInHand v1 sg = some so) : Met l yX9_bringInHand wsX9_bringInHand rmX9_bringInHand (PreZ ZC D vwCl T (tysC T) ad sg lg true nwL [.ref (ad 4), .long v1, .ref (ad 5)] sz) (QV ZC D vwCl T (tysC T) (va_A (zwd ZC T ad sg lg) sz) (fun z => ad = z) so lg) 0 0 (va_A (zwd ZC T ad sg lg) sz) :=
  metZ [.ref (ad 4), .long v1, .ref (ad 5)] sz (by decide) rfl (Nat.le_of_ble_eq_true rfl) (fun p e s m below meth c ls C hw hl => tX9_bringInHand_0 C v1 sg _ _ _ hw hl h)
-- PeckYard.best(J)J
def rmX11_best : Room := { frames := 5, cells := 2, slots := 8192, locals := 110 }
theorem kX11_best_f37 : Cond.fieldLink RX11 37 "PeckYard" "orders" "LPeckYard$Orders;" ∈ wsX11_best := by decide +kernel
theorem kX11_best_iX11 : ∀ w ∈ u_ws RX11 TX11 9, w ∈ wsX11_best := by decide +kernel
theorem kX11_best_f44 : Cond.fieldLink RX11 44 "PeckYard" "hand" "LPeckYard$Hand;" ∈ wsX11_best := by decide +kernel
theorem kX11_best_f166 : Cond.fieldLink RX11 166 "PeckYard$Hand" "size" "I" ∈ wsX11_best := by decide +kernel
theorem kX11_best_iX5 : ∀ w ∈ u_ws RX5 TX5 2, w ∈ wsX11_best := by decide +kernel
theorem kX11_best_c140 : Cond.constantLong RX11 140 (-2000000005) ∈ wsX11_best := by decide +kernel
theorem kX11_best_c88 : Cond.constantLong RX11 88 (-2000000001) ∈ wsX11_best := by decide +kernel
def fX11_best  (v1 : Int64) (sg : Sg) : Option (Int64 × Sg) :=
  (if (0 : Int64) ≤ v1 then bnd1 (fX9_solve sg) (fun sg2 => bnd2 (fX9_howMany sg2) (fun y5 sg6 => (if v1 < y5 then bnd1 (fX9_bringInHand v1 sg6) (fun sg9 => some ((sg9 5 0).toInt64, sg9)) else some ((-2000000005 : Int64), sg6)))) else some ((-2000000001 : Int64), sg))
set_option maxHeartbeats 4000000 in
set_option maxRecDepth 100000 in
theorem tX11_best_0 (C : Cx p s m args meth c cX11_best 3 RX11 wsX11_best (some .long) D vwCl (tysC T) A true nwL) {ro : Int64} {so : Sg}   : ∀ (v1 : Int64) (sg : Sg), ∀ (g : Nat → Nat) (H : Heap) (locs : List Loc) (ls : Array Slot), WS ZC D vwCl T (adr a g) sg lg A s.heap H locs → lv_has ls 3 [(0, .ref ((adr a g) 0)), (1, .long v1)] → fX11_best v1 sg = some (ro, so) → W p l e rmX11_best s m args below meth c H locs 0 0 (MQ below (QL ZC D vwCl T (tysC T) A (fun z => ∃ g' : Nat → Nat, z = adr a g') ro so lg) args s 2 8192 A) (F0 m 0 ls []) := by
  obtain ⟨⟨hx, hb, hml, hown, hts⟩, hr, hlk, hK, hA, hsp⟩ := id C
  intro v1 sg g H locs ls hw hl h
  unfold fX11_best at h
  refine lv_lload_n hx hb dX11_best_0 rfl (lv_at hl 1 rfl) ?_
  refine lv_lconst (v := (0 : Int64)) hx hb dX11_best_1 (by decide) ?_
  refine W.lcmp hx hb dX11_best_2 ?_
  refine lv_if_ge (tgt := 10) hx hb dX11_best_3 (by decide) (fun c1 => ?_) (fun c1 => ?_)
  · replace h := ite_t h ((lg_cmp_ge _ _).mp c1)
    refine lv_aload_n hx hb dX11_best_10 rfl (lv_at hl 0 rfl) ?_
    refine r_getR (ci := 11) (C := RX11) (U := TX11) (N := 9) hx hb hts kX11_best_iX11 hown hK hw 0 (by decide) rfl rfl 3 (by decide) 4 rfl (hts _ kX11_best_f37) (fun _ h9 => h9) dX11_best_11 ?_
    obtain ⟨sg2, hq3, h2⟩ := bnd1_some h
    replace h := h2
    clear h2
    refine r_cVv (As := []) (rest := []) C hw 4 (by decide) (ci := 9) rfl rfl (mX9_solve l D T a g lg H.size sg hq3) (cwV 0 hts gX11_best_X9_solve rfl rfl rfl (by decide +kernel) ⟨Nat.le_of_ble_eq_true rfl, Nat.le_of_ble_eq_true rfl⟩) rfl hl.1 rfl (Nat.le_of_ble_eq_true rfl) dX11_best_14 ⟨Nat.le_of_ble_eq_true rfl, Nat.le_of_ble_eq_true rfl⟩ (fun ad' H locs hp hw => ?_)
    obtain ⟨g4, rfl⟩ := hp
    refine W.widen (k := 2) (n := 8192) (by decide) (by decide) ?_
    refine lv_lload_n hx hb dX11_best_17 rfl (lv_at hl 1 rfl) ?_
    refine lv_aload_n hx hb dX11_best_18 rfl (lv_at hl 0 rfl) ?_
    refine r_getR (ci := 11) (C := RX11) (U := TX11) (N := 9) hx hb hts kX11_best_iX11 hown hK hw 0 (by decide) rfl rfl 3 (by decide) 4 rfl (hts _ kX11_best_f37) (fun _ h9 => h9) dX11_best_19 ?_
    obtain ⟨y5, sg6, hq7, h2⟩ := bnd2_some h
    replace h := h2
    clear h2
    refine r_cVl (As := []) (rest := [.long v1]) C hw 4 (by decide) (ci := 9) rfl rfl (mX9_howMany l D T (adr a g4) lg H.size sg2 hq7) (cwV 0 hts gX11_best_X9_howMany rfl rfl rfl (by decide +kernel) ⟨Nat.le_of_ble_eq_true rfl, Nat.le_of_ble_eq_true rfl⟩) rfl hl.1 rfl (Nat.le_of_ble_eq_true rfl) dX11_best_22 ⟨Nat.le_of_ble_eq_true rfl, Nat.le_of_ble_eq_true rfl⟩ (fun ad' H locs hp hw => ?_)
    subst hp
    refine W.widen (k := 2) (n := 8192) (by decide) (by decide) ?_
    refine W.lcmp hx hb dX11_best_25 ?_
    refine lv_if_lt (tgt := 33) hx hb dX11_best_26 (by decide) (fun c8 => ?_) (fun c8 => ?_)
    · replace h := ite_t h ((lg_cmp_lt _ _).mp c8)
      refine lv_aload_n hx hb dX11_best_33 rfl (lv_at hl 0 rfl) ?_
      refine r_getR (ci := 11) (C := RX11) (U := TX11) (N := 9) hx hb hts kX11_best_iX11 hown hK hw 0 (by decide) rfl rfl 3 (by decide) 4 rfl (hts _ kX11_best_f37) (fun _ h9 => h9) dX11_best_34 ?_
      refine lv_lload_n hx hb dX11_best_37 rfl (lv_at hl 1 rfl) ?_
      refine lv_aload_n hx hb dX11_best_38 rfl (lv_at hl 0 rfl) ?_
      refine r_getR (ci := 11) (C := RX11) (U := TX11) (N := 9) hx hb hts kX11_best_iX11 hown hK hw 0 (by decide) rfl rfl 4 (by decide) 5 rfl (hts _ kX11_best_f44) (fun _ h9 => h9) dX11_best_39 ?_
      obtain ⟨sg9, hq10, h2⟩ := bnd1_some h
      replace h := h2
      clear h2
      refine r_cVv (As := [.long v1, .ref ((adr a g) 5)]) (rest := []) C hw 4 (by decide) (ci := 9) rfl rfl (mX9_bringInHand l D T (adr a g4) lg H.size v1 sg6 hq10) (cwV 2 hts gX11_best_X9_bringInHand rfl rfl rfl (by decide +kernel) ⟨Nat.le_of_ble_eq_true rfl, Nat.le_of_ble_eq_true rfl⟩) rfl hl.1 rfl (Nat.le_of_ble_eq_true rfl) dX11_best_42 ⟨Nat.le_of_ble_eq_true rfl, Nat.le_of_ble_eq_true rfl⟩ (fun ad' H locs hp hw => ?_)
      subst hp
      refine W.widen (k := 2) (n := 8192) (by decide) (by decide) ?_
      refine lv_aload_n hx hb dX11_best_45 rfl (lv_at hl 0 rfl) ?_
      refine r_getR (ci := 11) (C := RX11) (U := TX11) (N := 9) hx hb hts kX11_best_iX11 hown hK hw 0 (by decide) rfl rfl 4 (by decide) 5 rfl (hts _ kX11_best_f44) (fun _ h9 => h9) dX11_best_46 ?_
      refine r_getI (ci := 5) (C := RX5) (U := TX5) (N := 2) hx hb hts kX11_best_iX5 hown hK hw 5 (by decide) rfl rfl 0 (by decide) rfl (hts _ kX11_best_f166) (fun _ h9 => h9) dX11_best_49 ?_
      refine lv_i2l (v := (sg9 5 0).toInt64) hx hb dX11_best_52 rfl ?_
      cases h
      exact r_lret C hw ⟨_, rfl⟩ (by decide) (by decide) dX11_best_53
    · replace h := ite_f h (fun z => c8 ((lg_cmp_lt _ _).mpr z))
      refine lv_ldc2 hx hb hown (hts _ kX11_best_c140) dX11_best_29 ?_
      cases h
      exact r_lret C hw ⟨_, rfl⟩ (by decide) (by decide) dX11_best_32
  · replace h := ite_f h (fun z => c1 ((lg_cmp_ge _ _).mpr z))
    refine lv_ldc2 hx hb hown (hts _ kX11_best_c88) dX11_best_6 ?_
    cases h
    exact r_lret C hw ⟨_, rfl⟩ (by decide) (by decide) dX11_best_9
theorem mX11_best (l : Launch) (D : va_G) (T : Nat → ClassId) (a g : Nat → Nat) (lg : Lg) (sz : Nat)   (v1 : Int64) (sg : Sg) {ro : Int64} {so : Sg} (h : fX11_best v1 sg = some (ro, so)) : Met l yX11_best wsX11_best rmX11_best (PreZ ZC D vwCl T (tysC T) (adr a g) sg lg true nwL [.ref ((adr a g) 0), .long v1] sz) (QL ZC D vwCl T (tysC T) (va_A (zwd ZC T (adr a g) sg lg) sz) (fun z => ∃ g' : Nat → Nat, z = adr a g') ro so lg) 2 8192 (va_A (zwd ZC T (adr a g) sg lg) sz) :=
  metZ [.ref ((adr a g) 0), .long v1] sz (by decide) rfl (Nat.le_of_ble_eq_true rfl) (fun p e s m below meth c ls C hw hl => tX11_best_0 C v1 sg g _ _ _ hw hl h)
-- PeckYard$Line.readFrom(LPeckYard$Hand;)Z
def rmX7_readFrom : Room := { frames := 3, cells := 0, slots := 0, locals := 64 }
theorem kX7_readFrom_f21 : Cond.fieldLink RX7 21 "PeckYard$Line" "muster" "LPeckYard$Muster;" ∈ wsX7_readFrom := by decide +kernel
theorem kX7_readFrom_iX7 : ∀ w ∈ u_ws RX7 TX7 4, w ∈ wsX7_readFrom := by decide +kernel
theorem kX7_readFrom_f30 : Cond.fieldLink RX7 30 "PeckYard$Hand" "size" "I" ∈ wsX7_readFrom := by decide +kernel
theorem kX7_readFrom_iX5 : ∀ w ∈ u_ws RX5 TX5 2, w ∈ wsX7_readFrom := by decide +kernel
theorem kX7_readFrom_f36 : Cond.fieldLink RX7 36 "PeckYard$Muster" "size" "I" ∈ wsX7_readFrom := by decide +kernel
theorem kX7_readFrom_iX8 : ∀ w ∈ u_ws RX8 TX8 10, w ∈ wsX7_readFrom := by decide +kernel
theorem kX7_readFrom_f37 : Cond.fieldLink RX7 37 "PeckYard$Muster" "slotOf" "[I" ∈ wsX7_readFrom := by decide +kernel
theorem kX7_readFrom_f40 : Cond.fieldLink RX7 40 "PeckYard$Hand" "hens" "[I" ∈ wsX7_readFrom := by decide +kernel
theorem kX7_readFrom_f9 : Cond.fieldLink RX7 9 "PeckYard$Line" "row" "[I" ∈ wsX7_readFrom := by decide +kernel
theorem kX7_readFrom_f15 : Cond.fieldLink RX7 15 "PeckYard$Line" "place" "[I" ∈ wsX7_readFrom := by decide +kernel
def fX7_readFrom_25 (r25 : (Int32 × Sg) → Option (Int32 × Sg)) (v2 : Int32) (sg : Sg) : Option (Int32 × Sg) :=
  (if (sg 5 0) ≤ v2 then some ((1 : Int32), sg) else gin v2 12 (lt (sg 31 v2.toNatClampNeg) (fun x3 => gin x3 12 (lt (sg 18 x3.toNatClampNeg) (fun x5 => (if x5 = (-1 : Int32) then some ((0 : Int32), sg) else gin v2 12 (lt (up2 sg 32 v2.toNatClampNeg x5) (fun sg8 => gin x5 12 (lt (up2 sg8 33 x5.toNatClampNeg v2) (fun sg10 => lt (v2 + (1 : Int32)) (fun x11 => r25 (x11, sg10))))))))))))
set_option maxHeartbeats 4000000 in
set_option maxRecDepth 100000 in
theorem tX7_readFrom_25 (C : Cx p s m args meth c cX7_readFrom 4 RX7 wsX7_readFrom (some .boolean) D vwCl (tysC T) A true nwL) {ro : Int32} {so : Sg} {r25 : (Int32 × Sg) → Option (Int32 × Sg)} (hr25 : ∀ (v2 : Int32) (sg : Sg), r25 (v2, sg) = some (ro, so) → ∀ (H : Heap) (locs : List Loc) (ls : Array Slot), WS ZC D vwCl T ad sg lg A s.heap H locs → lv_has ls 4 [(0, .ref (ad 6)), (1, .ref (ad 5)), (2, .int v2)] → W p l e rmX7_readFrom s m args below meth c H locs 0 0 (MQ below (QI ZC D vwCl T (tysC T) A (fun z => ad = z) ro so lg) args s 0 0 A) (F0 m 25 ls [])) : ∀ (v2 : Int32) (sg : Sg), ∀ (H : Heap) (locs : List Loc) (ls : Array Slot), WS ZC D vwCl T ad sg lg A s.heap H locs → lv_has ls 4 [(0, .ref (ad 6)), (1, .ref (ad 5)), (2, .int v2)] → fX7_readFrom_25 r25 v2 sg = some (ro, so) → W p l e rmX7_readFrom s m args below meth c H locs 0 0 (MQ below (QI ZC D vwCl T (tysC T) A (fun z => ad = z) ro so lg) args s 0 0 A) (F0 m 25 ls []) := by
  obtain ⟨⟨hx, hb, hml, hown, hts⟩, hr, hlk, hK, hA, hsp⟩ := id C
  intro v2 sg H locs ls hw hl h
  unfold fX7_readFrom_25 at h
  refine lv_iload_n hx hb dX7_readFrom_25 rfl (lv_at hl 2 rfl) ?_
  refine lv_aload_n hx hb dX7_readFrom_26 rfl (lv_at hl 1 rfl) ?_
  refine r_getI (ci := 5) (C := RX5) (U := TX5) (N := 2) hx hb hts kX7_readFrom_iX5 hown hK hw 5 (by decide) rfl rfl 0 (by decide) rfl (hts _ kX7_readFrom_f30) (fun _ h9 => h9) dX7_readFrom_27 ?_
  refine lv_icmp_ge (tgt := 75) hx hb dX7_readFrom_30 (by decide) (fun c1 => ?_) (fun c1 => ?_)
  · replace h := ite_t h c1
    refine lv_iconst (v := (1 : Int32)) hx hb dX7_readFrom_75 (by decide) ?_
    cases h
    exact r_zret C hw rfl (by decide) (by decide) (by decide) dX7_readFrom_76
  · replace h := ite_f h c1
    refine lv_aload_n hx hb dX7_readFrom_33 rfl (lv_at hl 0 rfl) ?_
    refine r_getR (ci := 7) (C := RX7) (U := TX7) (N := 4) hx hb hts kX7_readFrom_iX7 hown hK hw 6 (by decide) rfl rfl 0 (by decide) 3 rfl (hts _ kX7_readFrom_f21) (fun _ h9 => h9) dX7_readFrom_34 ?_
    refine r_getR (ci := 8) (C := RX8) (U := TX8) (N := 10) hx hb hts kX7_readFrom_iX8 hown hK hw 3 (by decide) rfl rfl 4 (by decide) 18 rfl (hts _ kX7_readFrom_f37) (fun _ h9 => h9) dX7_readFrom_37 ?_
    refine lv_aload_n hx hb dX7_readFrom_40 rfl (lv_at hl 1 rfl) ?_
    refine r_getR (ci := 5) (C := RX5) (U := TX5) (N := 2) hx hb hts kX7_readFrom_iX5 hown hK hw 5 (by decide) rfl rfl 1 (by decide) 31 rfl (hts _ kX7_readFrom_f40) (fun _ h9 => h9) dX7_readFrom_41 ?_
    refine lv_iload_n hx hb dX7_readFrom_44 rfl (lv_at hl 2 rfl) ?_
    have hi2 := (gin_some h).1
    replace h := (gin_some h).2
    refine r_iald hx hb hK hw 31 0 12 (by decide) rfl rfl rfl hi2 dX7_readFrom_45 ?_
    refine lv_topi (fun x3 ex3 => ?_)
    replace h := lt_get h x3 ex3
    have hi4 := (gin_some h).1
    replace h := (gin_some h).2
    refine r_iald hx hb hK hw 18 0 12 (by decide) rfl rfl rfl hi4 dX7_readFrom_46 ?_
    refine lv_topi (fun x5 ex5 => ?_)
    replace h := lt_get h x5 ex5
    refine lv_istore_n (lv' := [(3, .int x5), (0, .ref (ad 6)), (1, .ref (ad 5)), (2, .int v2)]) hx hb dX7_readFrom_47 rfl hl (by decide) rfl (fun ls hl => ?_)
    refine lv_iload_n hx hb dX7_readFrom_48 rfl (lv_at hl 0 rfl) ?_
    refine lv_iconst (v := (-1 : Int32)) hx hb dX7_readFrom_49 (by decide) ?_
    refine lv_icmp_ne (tgt := 55) hx hb dX7_readFrom_50 (by decide) (fun c6 => ?_) (fun c6 => ?_)
    · replace h := ite_f h c6
      refine lv_aload_n hx hb dX7_readFrom_55 rfl (lv_at hl 1 rfl) ?_
      refine r_getR (ci := 7) (C := RX7) (U := TX7) (N := 4) hx hb hts kX7_readFrom_iX7 hown hK hw 6 (by decide) rfl rfl 1 (by decide) 32 rfl (hts _ kX7_readFrom_f9) (fun _ h9 => h9) dX7_readFrom_56 ?_
      refine lv_iload_n hx hb dX7_readFrom_59 rfl (lv_at hl 3 rfl) ?_
      refine lv_iload_n hx hb dX7_readFrom_60 rfl (lv_at hl 0 rfl) ?_
      have hi7 := (gin_some h).1
      replace h := (gin_some h).2
      refine r_iast ZC_ok hx hb hK hw 32 0 12 (by decide) rfl rfl rfl hi7 dX7_readFrom_61 (fun H locs sg8 esg8 hw => ?_)
      replace h := lt_get h sg8 esg8
      refine lv_aload_n hx hb dX7_readFrom_62 rfl (lv_at hl 1 rfl) ?_
      refine r_getR (ci := 7) (C := RX7) (U := TX7) (N := 4) hx hb hts kX7_readFrom_iX7 hown hK hw 6 (by decide) rfl rfl 2 (by decide) 33 rfl (hts _ kX7_readFrom_f15) (fun _ h9 => h9) dX7_readFrom_63 ?_
      refine lv_iload_n hx hb dX7_readFrom_66 rfl (lv_at hl 0 rfl) ?_
      refine lv_iload_n hx hb dX7_readFrom_67 rfl (lv_at hl 3 rfl) ?_
      have hi9 := (gin_some h).1
      replace h := (gin_some h).2
      refine r_iast ZC_ok hx hb hK hw 33 0 12 (by decide) rfl rfl rfl hi9 dX7_readFrom_68 (fun H locs sg10 esg10 hw => ?_)
      replace h := lt_get h sg10 esg10
      obtain ⟨x11, ex11⟩ : ∃ z : Int32, z = (v2 + (1 : Int32)) := ⟨_, rfl⟩
      replace h := lt_get h x11 ex11
      refine lv_iinc (v := x11) (lv' := [(2, .int x11), (3, .int x5), (0, .ref (ad 6)), (1, .ref (ad 5))]) hx hb dX7_readFrom_69 hl (k := 3) rfl (by rw [ex11]; rfl) (by decide) rfl (fun ls hl => ?_)
      refine lv_goto (tgt := 25) hx hb dX7_readFrom_72 (by decide) ?_
      exact hr25 x11 sg10 h _ _ _ hw (lv_sub hl [2, 3, 0] rfl)
    · replace h := ite_t h c6
      refine lv_iconst (v := (0 : Int32)) hx hb dX7_readFrom_53 (by decide) ?_
      cases h
      exact r_zret C hw rfl (by decide) (by decide) (by decide) dX7_readFrom_54
def LX7_readFrom_25  : (Int32 × Sg) → Option (Int32 × Sg) := loop (fun rec z => fX7_readFrom_25 rec z.1 z.2)
theorem TX7_readFrom_25 (C : Cx p s m args meth c cX7_readFrom 4 RX7 wsX7_readFrom (some .boolean) D vwCl (tysC T) A true nwL) {ro : Int32} {so : Sg}   : ∀ (v2 : Int32) (sg : Sg), LX7_readFrom_25 (v2, sg) = some (ro, so) → ∀ (H : Heap) (locs : List Loc) (ls : Array Slot), WS ZC D vwCl T ad sg lg A s.heap H locs → lv_has ls 4 [(0, .ref (ad 6)), (1, .ref (ad 5)), (2, .int v2)] → W p l e rmX7_readFrom s m args below meth c H locs 0 0 (MQ below (QI ZC D vwCl T (tysC T) A (fun z => ad = z) ro so lg) args s 0 0 A) (F0 m 25 ls []) := by
  have key : ∀ z : (Int32 × Sg), LX7_readFrom_25  z = some (ro, so) → ∀ (H : Heap) (locs : List Loc) (ls : Array Slot), WS ZC D vwCl T ad z.2 lg A s.heap H locs → lv_has ls 4 [(0, .ref (ad 6)), (1, .ref (ad 5)), (2, .int z.1)] → W p l e rmX7_readFrom s m args below meth c H locs 0 0 (MQ below (QI ZC D vwCl T (tysC T) A (fun z => ad = z) ro so lg) args s 0 0 A) (F0 m 25 ls []) := by
    intro z h
    unfold LX7_readFrom_25 at h
    exact loop_ind (fun rec z => fX7_readFrom_25 rec z.1 z.2) (y := (ro, so)) (P := fun z => ∀ (H : Heap) (locs : List Loc) (ls : Array Slot), WS ZC D vwCl T ad z.2 lg A s.heap H locs → lv_has ls 4 [(0, .ref (ad 6)), (1, .ref (ad 5)), (2, .int z.1)] → W p l e rmX7_readFrom s m args below meth c H locs 0 0 (MQ below (QI ZC D vwCl T (tysC T) A (fun z => ad = z) ro so lg) args s 0 0 A) (F0 m 25 ls [])) (fun rec hrec z h H locs ls hw hl => tX7_readFrom_25 C  (fun v2 sg => hrec (v2, sg)) z.1 z.2 H locs ls hw hl h) z h
  exact fun v2 sg => key (v2, sg)
def fX7_readFrom  (sg : Sg) : Option (Int32 × Sg) :=
  bnd1 (fX8_gather sg) (fun sg1 => (if (sg1 5 0) = (sg1 3 2) then LX7_readFrom_25 ((0 : Int32), sg1) else some ((0 : Int32), sg1)))
set_option maxHeartbeats 4000000 in
set_option maxRecDepth 100000 in
theorem tX7_readFrom_0 (C : Cx p s m args meth c cX7_readFrom 4 RX7 wsX7_readFrom (some .boolean) D vwCl (tysC T) A true nwL) {ro : Int32} {so : Sg}   : ∀ (sg : Sg), ∀ (H : Heap) (locs : List Loc) (ls : Array Slot), WS ZC D vwCl T ad sg lg A s.heap H locs → lv_has ls 4 [(0, .ref (ad 6)), (1, .ref (ad 5))] → fX7_readFrom sg = some (ro, so) → W p l e rmX7_readFrom s m args below meth c H locs 0 0 (MQ below (QI ZC D vwCl T (tysC T) A (fun z => ad = z) ro so lg) args s 0 0 A) (F0 m 0 ls []) := by
  obtain ⟨⟨hx, hb, hml, hown, hts⟩, hr, hlk, hK, hA, hsp⟩ := id C
  intro sg H locs ls hw hl h
  unfold fX7_readFrom at h
  refine lv_aload_n hx hb dX7_readFrom_0 rfl (lv_at hl 0 rfl) ?_
  refine r_getR (ci := 7) (C := RX7) (U := TX7) (N := 4) hx hb hts kX7_readFrom_iX7 hown hK hw 6 (by decide) rfl rfl 0 (by decide) 3 rfl (hts _ kX7_readFrom_f21) (fun _ h9 => h9) dX7_readFrom_1 ?_
  obtain ⟨sg1, hq2, h2⟩ := bnd1_some h
  replace h := h2
  clear h2
  refine r_cVv (As := []) (rest := []) C hw 3 (by decide) (ci := 8) rfl rfl (mX8_gather l D T ad lg H.size sg hq2) (cwV 0 hts gX7_readFrom_X8_gather rfl rfl rfl (by decide +kernel) ⟨Nat.le_of_ble_eq_true rfl, Nat.le_of_ble_eq_true rfl⟩) rfl hl.1 rfl (Nat.le_of_ble_eq_true rfl) dX7_readFrom_4 ⟨Nat.le_of_ble_eq_true rfl, Nat.le_of_ble_eq_true rfl⟩ (fun ad' H locs hp hw => ?_)
  subst hp
  refine W.widen (k := 0) (n := 0) (by decide) (by decide) ?_
  refine lv_aload_n hx hb dX7_readFrom_7 rfl (lv_at hl 1 rfl) ?_
  refine r_getI (ci := 5) (C := RX5) (U := TX5) (N := 2) hx hb hts kX7_readFrom_iX5 hown hK hw 5 (by decide) rfl rfl 0 (by decide) rfl (hts _ kX7_readFrom_f30) (fun _ h9 => h9) dX7_readFrom_8 ?_
  refine lv_aload_n hx hb dX7_readFrom_11 rfl (lv_at hl 0 rfl) ?_
  refine r_getR (ci := 7) (C := RX7) (U := TX7) (N := 4) hx hb hts kX7_readFrom_iX7 hown hK hw 6 (by decide) rfl rfl 0 (by decide) 3 rfl (hts _ kX7_readFrom_f21) (fun _ h9 => h9) dX7_readFrom_12 ?_
  refine r_getI (ci := 8) (C := RX8) (U := TX8) (N := 10) hx hb hts kX7_readFrom_iX8 hown hK hw 3 (by decide) rfl rfl 2 (by decide) rfl (hts _ kX7_readFrom_f36) (fun _ h9 => h9) dX7_readFrom_15 ?_
  refine lv_icmp_eq (tgt := 23) hx hb dX7_readFrom_18 (by decide) (fun c3 => ?_) (fun c3 => ?_)
  · replace h := ite_t h c3
    refine lv_iconst (v := (0 : Int32)) hx hb dX7_readFrom_23 (by decide) ?_
    refine lv_istore_n (lv' := [(2, .int (0 : Int32)), (0, .ref (ad 6)), (1, .ref (ad 5))]) hx hb dX7_readFrom_24 rfl hl (by decide) rfl (fun ls hl => ?_)
    exact TX7_readFrom_25 C (0 : Int32) sg1 h _ _ _ hw (lv_sub hl [1, 2, 0] rfl)
  · replace h := ite_f h c3
    refine lv_iconst (v := (0 : Int32)) hx hb dX7_readFrom_21 (by decide) ?_
    cases h
    exact r_zret C hw rfl (by decide) (by decide) (by decide) dX7_readFrom_22
theorem mX7_readFrom (l : Launch) (D : va_G) (T : Nat → ClassId) (ad : Nat → Nat) (lg : Lg) (sz : Nat)   (sg : Sg) {ro : Int32} {so : Sg} (h : fX7_readFrom sg = some (ro, so)) : Met l yX7_readFrom wsX7_readFrom rmX7_readFrom (PreZ ZC D vwCl T (tysC T) ad sg lg true nwL [.ref (ad 6), .ref (ad 5)] sz) (QI ZC D vwCl T (tysC T) (va_A (zwd ZC T ad sg lg) sz) (fun z => ad = z) ro so lg) 0 0 (va_A (zwd ZC T ad sg lg) sz) :=
  metZ [.ref (ad 6), .ref (ad 5)] sz (by decide) rfl (Nat.le_of_ble_eq_true rfl) (fun p e s m below meth c ls C hw hl => tX7_readFrom_0 C sg _ _ _ hw hl h)
-- PeckYard$Orders.numberOf([I)J
def rmX9_numberOf_c32 : Room := { frames := 3, cells := 0, slots := 0, locals := 68 }
theorem kX9_numberOf_c32_f38 : Cond.fieldLink RX9 38 "PeckYard$Orders" "muster" "LPeckYard$Muster;" ∈ wsX9_numberOf := by decide +kernel
theorem kX9_numberOf_c32_iX9 : ∀ w ∈ u_ws RX9 TX9 11, w ∈ wsX9_numberOf := by decide +kernel
theorem kX9_numberOf_c32_f82 : Cond.fieldLink RX9 82 "PeckYard$Muster" "size" "I" ∈ wsX9_numberOf := by decide +kernel
theorem kX9_numberOf_c32_iX8 : ∀ w ∈ u_ws RX8 TX8 10, w ∈ wsX9_numberOf := by decide +kernel
theorem kX9_numberOf_c32_ini_X11 : Cond.initialized "PeckYard" ∈ wsX9_numberOf := by decide +kernel
theorem kX9_numberOf_c32_s85 : Cond.static yX11_isIn ∈ wsX9_numberOf := by decide +kernel
theorem kX9_numberOf_c32_f25 : Cond.fieldLink RX9 25 "PeckYard$Orders" "ways" "[I" ∈ wsX9_numberOf := by decide +kernel
theorem kX9_numberOf_c32_c106 : Cond.constantLong RX9 106 (-2000000005) ∈ wsX9_numberOf := by decide +kernel
def fX9_numberOf_c32_95 (r19 : (Int64 × Int32 × Int32 × Sg) → Option (Int64 × Sg)) (r62 : (Int64 × Int32 × Int32 × Int32 × Int32 × Int32 × Sg) → Option (Int64 × Sg)) (v2 : Int64) (v4 : Int32) (v5 : Int32) (v6 : Int32) (v7 : Int32) (v8 : Int32) (sg : Sg) : Option (Int64 × Sg) :=
  lt (v8 + (1 : Int32)) (fun x1 => r62 (v2, v4, v5, v6, v7, x1, sg))
set_option maxHeartbeats 4000000 in
set_option maxRecDepth 100000 in
theorem tX9_numberOf_c32_95 (C : Cx p s m args meth c cX9_numberOf 9 RX9 wsX9_numberOf (some .long) D vwCl (tysC T) A true nwL) {ro : Int64} {so : Sg} {r19 : (Int64 × Int32 × Int32 × Sg) → Option (Int64 × Sg)} {r62 : (Int64 × Int32 × Int32 × Int32 × Int32 × Int32 × Sg) → Option (Int64 × Sg)} (hr19 : ∀ (v2 : Int64) (v4 : Int32) (v5 : Int32) (sg : Sg), r19 (v2, v4, v5, sg) = some (ro, so) → ∀ (H : Heap) (locs : List Loc) (ls : Array Slot), WS ZC D vwCl T ad sg lg A s.heap H locs → lv_has ls 9 [(0, .ref (ad 4)), (1, .ref (ad 32)), (2, .long v2), (4, .int v4), (5, .int v5)] → W p l e rmX9_numberOf_c32 s m args below meth c H locs 0 0 (MQ below (QL ZC D vwCl T (tysC T) A (fun z => ad = z) ro so lg) args s 0 0 A) (F0 m 19 ls [])) (hr62 : ∀ (v2 : Int64) (v4 : Int32) (v5 : Int32) (v6 : Int32) (v7 : Int32) (v8 : Int32) (sg : Sg), r62 (v2, v4, v5, v6, v7, v8, sg) = some (ro, so) → ∀ (H : Heap) (locs : List Loc) (ls : Array Slot), WS ZC D vwCl T ad sg lg A s.heap H locs → lv_has ls 9 [(0, .ref (ad 4)), (1, .ref (ad 32)), (2, .long v2), (4, .int v4), (5, .int v5), (6, .int v6), (7, .int v7), (8, .int v8)] → W p l e rmX9_numberOf_c32 s m args below meth c H locs 0 0 (MQ below (QL ZC D vwCl T (tysC T) A (fun z => ad = z) ro so lg) args s 0 0 A) (F0 m 62 ls [])) : ∀ (v2 : Int64) (v4 : Int32) (v5 : Int32) (v6 : Int32) (v7 : Int32) (v8 : Int32) (sg : Sg), ∀ (H : Heap) (locs : List Loc) (ls : Array Slot), WS ZC D vwCl T ad sg lg A s.heap H locs → lv_has ls 9 [(0, .ref (ad 4)), (1, .ref (ad 32)), (2, .long v2), (4, .int v4), (5, .int v5), (6, .int v6), (7, .int v7), (8, .int v8)] → fX9_numberOf_c32_95 r19 r62 v2 v4 v5 v6 v7 v8 sg = some (ro, so) → W p l e rmX9_numberOf_c32 s m args below meth c H locs 0 0 (MQ below (QL ZC D vwCl T (tysC T) A (fun z => ad = z) ro so lg) args s 0 0 A) (F0 m 95 ls []) := by
  obtain ⟨⟨hx, hb, hml, hown, hts⟩, hr, hlk, hK, hA, hsp⟩ := id C
  intro v2 v4 v5 v6 v7 v8 sg H locs ls hw hl h
  unfold fX9_numberOf_c32_95 at h
  obtain ⟨x1, ex1⟩ : ∃ z : Int32, z = (v8 + (1 : Int32)) := ⟨_, rfl⟩
  replace h := lt_get h x1 ex1
  refine lv_iinc (v := x1) (lv' := [(8, .int x1), (0, .ref (ad 4)), (1, .ref (ad 32)), (2, .long v2), (4, .int v4), (5, .int v5), (6, .int v6), (7, .int v7)]) hx hb dX9_numberOf_95 hl (k := 7) rfl (by rw [ex1]; rfl) (by decide) rfl (fun ls hl => ?_)
  refine lv_goto (tgt := 62) hx hb dX9_numberOf_98 (by decide) ?_
  exact hr62 v2 v4 v5 v6 v7 x1 sg h _ _ _ hw (lv_sub hl [1, 2, 3, 4, 5, 6, 7, 0] rfl)
def fX9_numberOf_c32_62 (r19 : (Int64 × Int32 × Int32 × Sg) → Option (Int64 × Sg)) (r62 : (Int64 × Int32 × Int32 × Int32 × Int32 × Int32 × Sg) → Option (Int64 × Sg)) (v2 : Int64) (v4 : Int32) (v5 : Int32) (v6 : Int32) (v7 : Int32) (v8 : Int32) (sg : Sg) : Option (Int64 × Sg) :=
  (if v6 ≤ v8 then lt (v4 ||| ((1 : Int32) <<< (v6 &&& 31))) (fun x2 => lt (v5 + (1 : Int32)) (fun x3 => r19 (v2, x2, x3, sg))) else bnd2 (fX11_isIn v7 v8 sg) (fun y4 sg5 => (if y4 = 0 then fX9_numberOf_c32_95 r19 r62 v2 v4 v5 v6 v7 v8 sg5 else lt (v4 ||| ((1 : Int32) <<< (v8 &&& 31))) (fun x9 => gin x9 ((sg5 99 64).toNatClampNeg) (lt (v2 + (sg5 64 x9.toNatClampNeg).toInt64) (fun x11 => fX9_numberOf_c32_95 r19 r62 x11 v4 v5 v6 v7 v8 sg5))))))
set_option maxHeartbeats 4000000 in
set_option maxRecDepth 100000 in
theorem tX9_numberOf_c32_62 (C : Cx p s m args meth c cX9_numberOf 9 RX9 wsX9_numberOf (some .long) D vwCl (tysC T) A true nwL) {ro : Int64} {so : Sg} {r19 : (Int64 × Int32 × Int32 × Sg) → Option (Int64 × Sg)} {r62 : (Int64 × Int32 × Int32 × Int32 × Int32 × Int32 × Sg) → Option (Int64 × Sg)} (hr19 : ∀ (v2 : Int64) (v4 : Int32) (v5 : Int32) (sg : Sg), r19 (v2, v4, v5, sg) = some (ro, so) → ∀ (H : Heap) (locs : List Loc) (ls : Array Slot), WS ZC D vwCl T ad sg lg A s.heap H locs → lv_has ls 9 [(0, .ref (ad 4)), (1, .ref (ad 32)), (2, .long v2), (4, .int v4), (5, .int v5)] → W p l e rmX9_numberOf_c32 s m args below meth c H locs 0 0 (MQ below (QL ZC D vwCl T (tysC T) A (fun z => ad = z) ro so lg) args s 0 0 A) (F0 m 19 ls [])) (hr62 : ∀ (v2 : Int64) (v4 : Int32) (v5 : Int32) (v6 : Int32) (v7 : Int32) (v8 : Int32) (sg : Sg), r62 (v2, v4, v5, v6, v7, v8, sg) = some (ro, so) → ∀ (H : Heap) (locs : List Loc) (ls : Array Slot), WS ZC D vwCl T ad sg lg A s.heap H locs → lv_has ls 9 [(0, .ref (ad 4)), (1, .ref (ad 32)), (2, .long v2), (4, .int v4), (5, .int v5), (6, .int v6), (7, .int v7), (8, .int v8)] → W p l e rmX9_numberOf_c32 s m args below meth c H locs 0 0 (MQ below (QL ZC D vwCl T (tysC T) A (fun z => ad = z) ro so lg) args s 0 0 A) (F0 m 62 ls [])) : ∀ (v2 : Int64) (v4 : Int32) (v5 : Int32) (v6 : Int32) (v7 : Int32) (v8 : Int32) (sg : Sg), ∀ (H : Heap) (locs : List Loc) (ls : Array Slot), WS ZC D vwCl T ad sg lg A s.heap H locs → lv_has ls 9 [(0, .ref (ad 4)), (1, .ref (ad 32)), (2, .long v2), (4, .int v4), (5, .int v5), (6, .int v6), (7, .int v7), (8, .int v8)] → fX9_numberOf_c32_62 r19 r62 v2 v4 v5 v6 v7 v8 sg = some (ro, so) → W p l e rmX9_numberOf_c32 s m args below meth c H locs 0 0 (MQ below (QL ZC D vwCl T (tysC T) A (fun z => ad = z) ro so lg) args s 0 0 A) (F0 m 62 ls []) := by
  obtain ⟨⟨hx, hb, hml, hown, hts⟩, hr, hlk, hK, hA, hsp⟩ := id C
  intro v2 v4 v5 v6 v7 v8 sg H locs ls hw hl h
  unfold fX9_numberOf_c32_62 at h
  refine lv_iload hx hb dX9_numberOf_62 (lv_at hl 7 rfl) ?_
  refine lv_iload hx hb dX9_numberOf_64 (lv_at hl 5 rfl) ?_
  refine lv_icmp_ge (tgt := 101) hx hb dX9_numberOf_66 (by decide) (fun c1 => ?_) (fun c1 => ?_)
  · replace h := ite_t h c1
    refine lv_iload hx hb dX9_numberOf_101 (lv_at hl 3 rfl) ?_
    refine lv_iconst (v := (1 : Int32)) hx hb dX9_numberOf_103 (by decide) ?_
    refine lv_iload hx hb dX9_numberOf_104 (lv_at hl 5 rfl) ?_
    refine lv_ishl hx hb dX9_numberOf_106 ?_
    refine lv_ior hx hb dX9_numberOf_107 ?_
    refine lv_topi (fun x2 ex2 => ?_)
    replace h := lt_get h x2 ex2
    refine lv_istore (lv' := [(4, .int x2), (0, .ref (ad 4)), (1, .ref (ad 32)), (2, .long v2), (5, .int v5), (6, .int v6), (7, .int v7), (8, .int v8)]) hx hb dX9_numberOf_108 hl (by decide) rfl (fun ls hl => ?_)
    obtain ⟨x3, ex3⟩ : ∃ z : Int32, z = (v5 + (1 : Int32)) := ⟨_, rfl⟩
    replace h := lt_get h x3 ex3
    refine lv_iinc (v := x3) (lv' := [(5, .int x3), (4, .int x2), (0, .ref (ad 4)), (1, .ref (ad 32)), (2, .long v2), (6, .int v6), (7, .int v7), (8, .int v8)]) hx hb dX9_numberOf_110 hl (k := 4) rfl (by rw [ex3]; rfl) (by decide) rfl (fun ls hl => ?_)
    refine lv_goto (tgt := 19) hx hb dX9_numberOf_113 (by decide) ?_
    exact hr19 v2 x2 x3 sg h _ _ _ hw (lv_sub hl [2, 3, 4, 1, 0] rfl)
  · replace h := ite_f h c1
    refine lv_iload hx hb dX9_numberOf_69 (lv_at hl 6 rfl) ?_
    refine lv_iload hx hb dX9_numberOf_71 (lv_at hl 7 rfl) ?_
    obtain ⟨y4, sg5, hq6, h2⟩ := bnd2_some h
    replace h := h2
    clear h2
    obtain ⟨-, -, hmt7⟩ := hsp rfl
    refine r_cNi (As := [.int v7, .int v8]) (rest := []) C hw (mX11_isIn l D T ad lg H.size v7 v8 sg hq6) ⟨va_cnB (host := "PeckYard") 2 hts gX9_numberOf_X11_isIn_n85 rfl rfl rfl (hmt7 _ nw_X9_85) (hts _ kX9_numberOf_c32_ini_X11) (by decide +kernel) ⟨Nat.le_of_ble_eq_true rfl, Nat.le_of_ble_eq_true rfl⟩, (hts _ kX9_numberOf_c32_s85), trivial⟩ rfl hl.1 rfl (Nat.le_of_ble_eq_true rfl) dX9_numberOf_73 ⟨Nat.le_of_ble_eq_true rfl, Nat.le_of_ble_eq_true rfl⟩ (fun ad' H locs hp hw => ?_)
    subst hp
    refine W.widen (k := 0) (n := 0) (by decide) (by decide) ?_
    refine lv_if_eq (tgt := 95) hx hb dX9_numberOf_76 (by decide) (fun c8 => ?_) (fun c8 => ?_)
    · replace h := ite_t h c8
      exact tX9_numberOf_c32_95 C hr19 hr62 v2 v4 v5 v6 v7 v8 sg5 _ _ _ hw (lv_sub hl [0, 1, 2, 3, 4, 5, 6, 7] rfl) h
    · replace h := ite_f h c8
      refine lv_lload_n hx hb dX9_numberOf_79 rfl (lv_at hl 2 rfl) ?_
      refine lv_aload_n hx hb dX9_numberOf_80 rfl (lv_at hl 0 rfl) ?_
      refine r_getR (ci := 9) (C := RX9) (U := TX9) (N := 11) hx hb hts kX9_numberOf_c32_iX9 hown hK hw 4 (by decide) rfl rfl 7 (by decide) 64 rfl (hts _ kX9_numberOf_c32_f25) (fun _ h9 => h9) dX9_numberOf_81 ?_
      refine lv_iload hx hb dX9_numberOf_84 (lv_at hl 3 rfl) ?_
      refine lv_iconst (v := (1 : Int32)) hx hb dX9_numberOf_86 (by decide) ?_
      refine lv_iload hx hb dX9_numberOf_87 (lv_at hl 7 rfl) ?_
      refine lv_ishl hx hb dX9_numberOf_89 ?_
      refine lv_ior hx hb dX9_numberOf_90 ?_
      refine lv_topi (fun x9 ex9 => ?_)
      replace h := lt_get h x9 ex9
      have hi10 := (gin_some h).1
      replace h := (gin_some h).2
      refine r_iald hx hb hK hw 64 0 ((sg5 99 64).toNatClampNeg) (by decide) rfl rfl rfl hi10 dX9_numberOf_91 ?_
      refine lv_i2l (v := (sg5 64 x9.toNatClampNeg).toInt64) hx hb dX9_numberOf_92 rfl ?_
      refine lv_ladd hx hb dX9_numberOf_93 ?_
      refine lv_topl (fun x11 ex11 => ?_)
      replace h := lt_get h x11 ex11
      refine lv_lstore_n (lv' := [(2, .long x11), (0, .ref (ad 4)), (1, .ref (ad 32)), (4, .int v4), (5, .int v5), (6, .int v6), (7, .int v7), (8, .int v8)]) hx hb dX9_numberOf_94 rfl hl (by decide) rfl (fun ls hl => ?_)
      exact tX9_numberOf_c32_95 C hr19 hr62 x11 v4 v5 v6 v7 v8 sg5 _ _ _ hw (lv_sub hl [1, 2, 0, 3, 4, 5, 6, 7] rfl) h
def LX9_numberOf_c32_62 (r19 : (Int64 × Int32 × Int32 × Sg) → Option (Int64 × Sg)) : (Int64 × Int32 × Int32 × Int32 × Int32 × Int32 × Sg) → Option (Int64 × Sg) := loop (fun rec z => fX9_numberOf_c32_62 r19 rec z.1 z.2.1 z.2.2.1 z.2.2.2.1 z.2.2.2.2.1 z.2.2.2.2.2.1 z.2.2.2.2.2.2)
theorem TX9_numberOf_c32_62 (C : Cx p s m args meth c cX9_numberOf 9 RX9 wsX9_numberOf (some .long) D vwCl (tysC T) A true nwL) {ro : Int64} {so : Sg} {r19 : (Int64 × Int32 × Int32 × Sg) → Option (Int64 × Sg)} (hr19 : ∀ (v2 : Int64) (v4 : Int32) (v5 : Int32) (sg : Sg), r19 (v2, v4, v5, sg) = some (ro, so) → ∀ (H : Heap) (locs : List Loc) (ls : Array Slot), WS ZC D vwCl T ad sg lg A s.heap H locs → lv_has ls 9 [(0, .ref (ad 4)), (1, .ref (ad 32)), (2, .long v2), (4, .int v4), (5, .int v5)] → W p l e rmX9_numberOf_c32 s m args below meth c H locs 0 0 (MQ below (QL ZC D vwCl T (tysC T) A (fun z => ad = z) ro so lg) args s 0 0 A) (F0 m 19 ls [])) : ∀ (v2 : Int64) (v4 : Int32) (v5 : Int32) (v6 : Int32) (v7 : Int32) (v8 : Int32) (sg : Sg), LX9_numberOf_c32_62 r19 (v2, v4, v5, v6, v7, v8, sg) = some (ro, so) → ∀ (H : Heap) (locs : List Loc) (ls : Array Slot), WS ZC D vwCl T ad sg lg A s.heap H locs → lv_has ls 9 [(0, .ref (ad 4)), (1, .ref (ad 32)), (2, .long v2), (4, .int v4), (5, .int v5), (6, .int v6), (7, .int v7), (8, .int v8)] → W p l e rmX9_numberOf_c32 s m args below meth c H locs 0 0 (MQ below (QL ZC D vwCl T (tysC T) A (fun z => ad = z) ro so lg) args s 0 0 A) (F0 m 62 ls []) := by
  have key : ∀ z : (Int64 × Int32 × Int32 × Int32 × Int32 × Int32 × Sg), LX9_numberOf_c32_62 r19 z = some (ro, so) → ∀ (H : Heap) (locs : List Loc) (ls : Array Slot), WS ZC D vwCl T ad z.2.2.2.2.2.2 lg A s.heap H locs → lv_has ls 9 [(0, .ref (ad 4)), (1, .ref (ad 32)), (2, .long z.1), (4, .int z.2.1), (5, .int z.2.2.1), (6, .int z.2.2.2.1), (7, .int z.2.2.2.2.1), (8, .int z.2.2.2.2.2.1)] → W p l e rmX9_numberOf_c32 s m args below meth c H locs 0 0 (MQ below (QL ZC D vwCl T (tysC T) A (fun z => ad = z) ro so lg) args s 0 0 A) (F0 m 62 ls []) := by
    intro z h
    unfold LX9_numberOf_c32_62 at h
    exact loop_ind (fun rec z => fX9_numberOf_c32_62 r19 rec z.1 z.2.1 z.2.2.1 z.2.2.2.1 z.2.2.2.2.1 z.2.2.2.2.2.1 z.2.2.2.2.2.2) (y := (ro, so)) (P := fun z => ∀ (H : Heap) (locs : List Loc) (ls : Array Slot), WS ZC D vwCl T ad z.2.2.2.2.2.2 lg A s.heap H locs → lv_has ls 9 [(0, .ref (ad 4)), (1, .ref (ad 32)), (2, .long z.1), (4, .int z.2.1), (5, .int z.2.2.1), (6, .int z.2.2.2.1), (7, .int z.2.2.2.2.1), (8, .int z.2.2.2.2.2.1)] → W p l e rmX9_numberOf_c32 s m args below meth c H locs 0 0 (MQ below (QL ZC D vwCl T (tysC T) A (fun z => ad = z) ro so lg) args s 0 0 A) (F0 m 62 ls [])) (fun rec hrec z h H locs ls hw hl => tX9_numberOf_c32_62 C hr19 (fun v2 v4 v5 v6 v7 v8 sg => hrec (v2, v4, v5, v6, v7, v8, sg)) z.1 z.2.1 z.2.2.1 z.2.2.2.1 z.2.2.2.2.1 z.2.2.2.2.2.1 z.2.2.2.2.2.2 H locs ls hw hl h) z h
  exact fun v2 v4 v5 v6 v7 v8 sg => key (v2, v4, v5, v6, v7, v8, sg)
def fX9_numberOf_c32_19 (r19 : (Int64 × Int32 × Int32 × Sg) → Option (Int64 × Sg)) (v2 : Int64) (v4 : Int32) (v5 : Int32) (sg : Sg) : Option (Int64 × Sg) :=
  (if (sg 3 2) ≤ v5 then some (v2, sg) else gin v5 12 (lt (sg 32 v5.toNatClampNeg) (fun x3 => bnd2 (fX9_bestChoices v4 sg) (fun y4 sg5 => bnd2 (fX11_isIn y4 x3 sg5) (fun y7 sg8 => (if y7 = 0 then some ((-2000000005 : Int64), sg8) else LX9_numberOf_c32_62 r19 (v2, v4, v5, x3, y4, (0 : Int32), sg8)))))))
set_option maxHeartbeats 4000000 in
set_option maxRecDepth 100000 in
theorem tX9_numberOf_c32_19 (C : Cx p s m args meth c cX9_numberOf 9 RX9 wsX9_numberOf (some .long) D vwCl (tysC T) A true nwL) {ro : Int64} {so : Sg} {r19 : (Int64 × Int32 × Int32 × Sg) → Option (Int64 × Sg)} (hr19 : ∀ (v2 : Int64) (v4 : Int32) (v5 : Int32) (sg : Sg), r19 (v2, v4, v5, sg) = some (ro, so) → ∀ (H : Heap) (locs : List Loc) (ls : Array Slot), WS ZC D vwCl T ad sg lg A s.heap H locs → lv_has ls 9 [(0, .ref (ad 4)), (1, .ref (ad 32)), (2, .long v2), (4, .int v4), (5, .int v5)] → W p l e rmX9_numberOf_c32 s m args below meth c H locs 0 0 (MQ below (QL ZC D vwCl T (tysC T) A (fun z => ad = z) ro so lg) args s 0 0 A) (F0 m 19 ls [])) : ∀ (v2 : Int64) (v4 : Int32) (v5 : Int32) (sg : Sg), ∀ (H : Heap) (locs : List Loc) (ls : Array Slot), WS ZC D vwCl T ad sg lg A s.heap H locs → lv_has ls 9 [(0, .ref (ad 4)), (1, .ref (ad 32)), (2, .long v2), (4, .int v4), (5, .int v5)] → fX9_numberOf_c32_19 r19 v2 v4 v5 sg = some (ro, so) → W p l e rmX9_numberOf_c32 s m args below meth c H locs 0 0 (MQ below (QL ZC D vwCl T (tysC T) A (fun z => ad = z) ro so lg) args s 0 0 A) (F0 m 19 ls []) := by
  obtain ⟨⟨hx, hb, hml, hown, hts⟩, hr, hlk, hK, hA, hsp⟩ := id C
  intro v2 v4 v5 sg H locs ls hw hl h
  unfold fX9_numberOf_c32_19 at h
  refine lv_iload hx hb dX9_numberOf_19 (lv_at hl 4 rfl) ?_
  refine lv_aload_n hx hb dX9_numberOf_21 rfl (lv_at hl 0 rfl) ?_
  refine r_getR (ci := 9) (C := RX9) (U := TX9) (N := 11) hx hb hts kX9_numberOf_c32_iX9 hown hK hw 4 (by decide) rfl rfl 0 (by decide) 3 rfl (hts _ kX9_numberOf_c32_f38) (fun _ h9 => h9) dX9_numberOf_22 ?_
  refine r_getI (ci := 8) (C := RX8) (U := TX8) (N := 10) hx hb hts kX9_numberOf_c32_iX8 hown hK hw 3 (by decide) rfl rfl 2 (by decide) rfl (hts _ kX9_numberOf_c32_f82) (fun _ h9 => h9) dX9_numberOf_25 ?_
  refine lv_icmp_ge (tgt := 116) hx hb dX9_numberOf_28 (by decide) (fun c1 => ?_) (fun c1 => ?_)
  · replace h := ite_t h c1
    refine lv_lload_n hx hb dX9_numberOf_116 rfl (lv_at hl 2 rfl) ?_
    cases h
    exact r_lret C hw rfl (by decide) (by decide) dX9_numberOf_117
  · replace h := ite_f h c1
    refine lv_aload_n hx hb dX9_numberOf_31 rfl (lv_at hl 1 rfl) ?_
    refine lv_iload hx hb dX9_numberOf_32 (lv_at hl 4 rfl) ?_
    have hi2 := (gin_some h).1
    replace h := (gin_some h).2
    refine r_iald hx hb hK hw 32 0 12 (by decide) rfl rfl rfl hi2 dX9_numberOf_34 ?_
    refine lv_topi (fun x3 ex3 => ?_)
    replace h := lt_get h x3 ex3
    refine lv_istore (lv' := [(6, .int x3), (0, .ref (ad 4)), (1, .ref (ad 32)), (2, .long v2), (4, .int v4), (5, .int v5)]) hx hb dX9_numberOf_35 hl (by decide) rfl (fun ls hl => ?_)
    refine lv_aload_n hx hb dX9_numberOf_37 rfl (lv_at hl 1 rfl) ?_
    refine lv_iload hx hb dX9_numberOf_38 (lv_at hl 4 rfl) ?_
    obtain ⟨y4, sg5, hq6, h2⟩ := bnd2_some h
    replace h := h2
    clear h2
    refine r_cVi (As := [.int v4]) (rest := []) C hw 4 (by decide) (ci := 9) rfl rfl (mX9_bestChoices l D T ad lg H.size v4 sg hq6) (cwV 1 hts gX9_numberOf_X9_bestChoices rfl rfl rfl (by decide +kernel) ⟨Nat.le_of_ble_eq_true rfl, Nat.le_of_ble_eq_true rfl⟩) rfl hl.1 rfl (Nat.le_of_ble_eq_true rfl) dX9_numberOf_40 ⟨Nat.le_of_ble_eq_true rfl, Nat.le_of_ble_eq_true rfl⟩ (fun ad' H locs hp hw => ?_)
    subst hp
    refine W.widen (k := 0) (n := 0) (by decide) (by decide) ?_
    refine lv_istore (lv' := [(7, .int y4), (6, .int x3), (0, .ref (ad 4)), (1, .ref (ad 32)), (2, .long v2), (4, .int v4), (5, .int v5)]) hx hb dX9_numberOf_43 hl (by decide) rfl (fun ls hl => ?_)
    refine lv_iload hx hb dX9_numberOf_45 (lv_at hl 0 rfl) ?_
    refine lv_iload hx hb dX9_numberOf_47 (lv_at hl 1 rfl) ?_
    obtain ⟨y7, sg8, hq9, h2⟩ := bnd2_some h
    replace h := h2
    clear h2
    obtain ⟨-, -, hmt10⟩ := hsp rfl
    refine r_cNi (As := [.int y4, .int x3]) (rest := []) C hw (mX11_isIn l D T ad lg H.size y4 x3 sg5 hq9) ⟨va_cnB (host := "PeckYard") 2 hts gX9_numberOf_X11_isIn_n85 rfl rfl rfl (hmt10 _ nw_X9_85) (hts _ kX9_numberOf_c32_ini_X11) (by decide +kernel) ⟨Nat.le_of_ble_eq_true rfl, Nat.le_of_ble_eq_true rfl⟩, (hts _ kX9_numberOf_c32_s85), trivial⟩ rfl hl.1 rfl (Nat.le_of_ble_eq_true rfl) dX9_numberOf_49 ⟨Nat.le_of_ble_eq_true rfl, Nat.le_of_ble_eq_true rfl⟩ (fun ad' H locs hp hw => ?_)
    subst hp
    refine W.widen (k := 0) (n := 0) (by decide) (by decide) ?_
    refine lv_if_ne (tgt := 59) hx hb dX9_numberOf_52 (by decide) (fun c11 => ?_) (fun c11 => ?_)
    · replace h := ite_f h c11
      refine lv_iconst (v := (0 : Int32)) hx hb dX9_numberOf_59 (by decide) ?_
      refine lv_istore (lv' := [(8, .int (0 : Int32)), (7, .int y4), (6, .int x3), (0, .ref (ad 4)), (1, .ref (ad 32)), (2, .long v2), (4, .int v4), (5, .int v5)]) hx hb dX9_numberOf_60 hl (by decide) rfl (fun ls hl => ?_)
      exact TX9_numberOf_c32_62 C hr19 v2 v4 v5 x3 y4 (0 : Int32) sg8 h _ _ _ hw (lv_sub hl [3, 4, 5, 6, 7, 2, 1, 0] rfl)
    · replace h := ite_t h c11
      refine lv_ldc2 hx hb hown (hts _ kX9_numberOf_c32_c106) dX9_numberOf_55 ?_
      cases h
      exact r_lret C hw rfl (by decide) (by decide) dX9_numberOf_58
def LX9_numberOf_c32_19  : (Int64 × Int32 × Int32 × Sg) → Option (Int64 × Sg) := loop (fun rec z => fX9_numberOf_c32_19 rec z.1 z.2.1 z.2.2.1 z.2.2.2)
theorem TX9_numberOf_c32_19 (C : Cx p s m args meth c cX9_numberOf 9 RX9 wsX9_numberOf (some .long) D vwCl (tysC T) A true nwL) {ro : Int64} {so : Sg}   : ∀ (v2 : Int64) (v4 : Int32) (v5 : Int32) (sg : Sg), LX9_numberOf_c32_19 (v2, v4, v5, sg) = some (ro, so) → ∀ (H : Heap) (locs : List Loc) (ls : Array Slot), WS ZC D vwCl T ad sg lg A s.heap H locs → lv_has ls 9 [(0, .ref (ad 4)), (1, .ref (ad 32)), (2, .long v2), (4, .int v4), (5, .int v5)] → W p l e rmX9_numberOf_c32 s m args below meth c H locs 0 0 (MQ below (QL ZC D vwCl T (tysC T) A (fun z => ad = z) ro so lg) args s 0 0 A) (F0 m 19 ls []) := by
  have key : ∀ z : (Int64 × Int32 × Int32 × Sg), LX9_numberOf_c32_19  z = some (ro, so) → ∀ (H : Heap) (locs : List Loc) (ls : Array Slot), WS ZC D vwCl T ad z.2.2.2 lg A s.heap H locs → lv_has ls 9 [(0, .ref (ad 4)), (1, .ref (ad 32)), (2, .long z.1), (4, .int z.2.1), (5, .int z.2.2.1)] → W p l e rmX9_numberOf_c32 s m args below meth c H locs 0 0 (MQ below (QL ZC D vwCl T (tysC T) A (fun z => ad = z) ro so lg) args s 0 0 A) (F0 m 19 ls []) := by
    intro z h
    unfold LX9_numberOf_c32_19 at h
    exact loop_ind (fun rec z => fX9_numberOf_c32_19 rec z.1 z.2.1 z.2.2.1 z.2.2.2) (y := (ro, so)) (P := fun z => ∀ (H : Heap) (locs : List Loc) (ls : Array Slot), WS ZC D vwCl T ad z.2.2.2 lg A s.heap H locs → lv_has ls 9 [(0, .ref (ad 4)), (1, .ref (ad 32)), (2, .long z.1), (4, .int z.2.1), (5, .int z.2.2.1)] → W p l e rmX9_numberOf_c32 s m args below meth c H locs 0 0 (MQ below (QL ZC D vwCl T (tysC T) A (fun z => ad = z) ro so lg) args s 0 0 A) (F0 m 19 ls [])) (fun rec hrec z h H locs ls hw hl => tX9_numberOf_c32_19 C  (fun v2 v4 v5 sg => hrec (v2, v4, v5, sg)) z.1 z.2.1 z.2.2.1 z.2.2.2 H locs ls hw hl h) z h
  exact fun v2 v4 v5 sg => key (v2, v4, v5, sg)
def fX9_numberOf_c32  (sg : Sg) : Option (Int64 × Sg) :=
  bnd2 (fX9_hasLawful sg) (fun y1 sg2 => (if y1 = 0 then some ((-2000000005 : Int64), sg2) else LX9_numberOf_c32_19 ((0 : Int64), (0 : Int32), (0 : Int32), sg2)))
set_option maxHeartbeats 4000000 in
set_option maxRecDepth 100000 in
theorem tX9_numberOf_c32_0 (C : Cx p s m args meth c cX9_numberOf 9 RX9 wsX9_numberOf (some .long) D vwCl (tysC T) A true nwL) {ro : Int64} {so : Sg}   : ∀ (sg : Sg), ∀ (H : Heap) (locs : List Loc) (ls : Array Slot), WS ZC D vwCl T ad sg lg A s.heap H locs → lv_has ls 9 [(0, .ref (ad 4)), (1, .ref (ad 32))] → fX9_numberOf_c32 sg = some (ro, so) → W p l e rmX9_numberOf_c32 s m args below meth c H locs 0 0 (MQ below (QL ZC D vwCl T (tysC T) A (fun z => ad = z) ro so lg) args s 0 0 A) (F0 m 0 ls []) := by
  obtain ⟨⟨hx, hb, hml, hown, hts⟩, hr, hlk, hK, hA, hsp⟩ := id C
  intro sg H locs ls hw hl h
  unfold fX9_numberOf_c32 at h
  refine lv_aload_n hx hb dX9_numberOf_0 rfl (lv_at hl 0 rfl) ?_
  obtain ⟨y1, sg2, hq3, h2⟩ := bnd2_some h
  replace h := h2
  clear h2
  refine r_cVi (As := []) (rest := []) C hw 4 (by decide) (ci := 9) rfl rfl (mX9_hasLawful l D T ad lg H.size sg hq3) (cwV 0 hts gX9_numberOf_X9_hasLawful rfl rfl rfl (by decide +kernel) ⟨Nat.le_of_ble_eq_true rfl, Nat.le_of_ble_eq_true rfl⟩) rfl hl.1 rfl (Nat.le_of_ble_eq_true rfl) dX9_numberOf_1 ⟨Nat.le_of_ble_eq_true rfl, Nat.le_of_ble_eq_true rfl⟩ (fun ad' H locs hp hw => ?_)
  subst hp
  refine W.widen (k := 0) (n := 0) (by decide) (by decide) ?_
  refine lv_if_ne (tgt := 11) hx hb dX9_numberOf_4 (by decide) (fun c4 => ?_) (fun c4 => ?_)
  · replace h := ite_f h c4
    refine lv_lconst (v := (0 : Int64)) hx hb dX9_numberOf_11 (by decide) ?_
    refine lv_lstore_n (lv' := [(2, .long (0 : Int64)), (0, .ref (ad 4)), (1, .ref (ad 32))]) hx hb dX9_numberOf_12 rfl hl (by decide) rfl (fun ls hl => ?_)
    refine lv_iconst (v := (0 : Int32)) hx hb dX9_numberOf_13 (by decide) ?_
    refine lv_istore (lv' := [(4, .int (0 : Int32)), (2, .long (0 : Int64)), (0, .ref (ad 4)), (1, .ref (ad 32))]) hx hb dX9_numberOf_14 hl (by decide) rfl (fun ls hl => ?_)
    refine lv_iconst (v := (0 : Int32)) hx hb dX9_numberOf_16 (by decide) ?_
    refine lv_istore (lv' := [(5, .int (0 : Int32)), (4, .int (0 : Int32)), (2, .long (0 : Int64)), (0, .ref (ad 4)), (1, .ref (ad 32))]) hx hb dX9_numberOf_17 hl (by decide) rfl (fun ls hl => ?_)
    exact TX9_numberOf_c32_19 C (0 : Int64) (0 : Int32) (0 : Int32) sg2 h _ _ _ hw (lv_sub hl [3, 4, 2, 1, 0] rfl)
  · replace h := ite_t h c4
    refine lv_ldc2 hx hb hown (hts _ kX9_numberOf_c32_c106) dX9_numberOf_7 ?_
    cases h
    exact r_lret C hw rfl (by decide) (by decide) dX9_numberOf_10
theorem mX9_numberOf_c32 (l : Launch) (D : va_G) (T : Nat → ClassId) (ad : Nat → Nat) (lg : Lg) (sz : Nat)   (sg : Sg) {ro : Int64} {so : Sg} (h : fX9_numberOf_c32 sg = some (ro, so)) : Met l yX9_numberOf wsX9_numberOf rmX9_numberOf_c32 (PreZ ZC D vwCl T (tysC T) ad sg lg true nwL [.ref (ad 4), .ref (ad 32)] sz) (QL ZC D vwCl T (tysC T) (va_A (zwd ZC T ad sg lg) sz) (fun z => ad = z) ro so lg) 0 0 (va_A (zwd ZC T ad sg lg) sz) :=
  metZ [.ref (ad 4), .ref (ad 32)] sz (by decide) rfl (Nat.le_of_ble_eq_true rfl) (fun p e s m below meth c ls C hw hl => tX9_numberOf_c32_0 C sg _ _ _ hw hl h)
end ZC
