section ZC
variable {p : Program} {l : Launch} {e : Env} {s : State} {m : MethodId} {args : Array Value} {below : List Frame} {meth : Method} {c : Code} {D : va_G} {T : Nat → ClassId} {A : Nat → Prop} {ad a : Nat → Nat} {lg : Lg}
-- PeckYard$Rings.packAll()J
def rmX10_packAll : Room := { frames := 4, cells := 0, slots := 0, locals := 92 }
theorem kX10_packAll_f36 : Cond.fieldLink RX10 36 "PeckYard$Rings" "muster" "LPeckYard$Muster;" ∈ wsX10_packAll := by decide +kernel
theorem kX10_packAll_iX10 : ∀ w ∈ u_ws RX10 TX10 10, w ∈ wsX10_packAll := by decide +kernel
theorem kX10_packAll_f48 : Cond.fieldLink RX10 48 "PeckYard$Rings" "size" "I" ∈ wsX10_packAll := by decide +kernel
def fX10_packAll_20 (r20 : (Int64 × Int32 × Sg) → Option (Int64 × Sg)) (v1 : Int64) (v3 : Int32) (sg : Sg) : Option (Int64 × Sg) :=
  (if (132 : Int32) ≤ v3 then some (v1, sg) else bnd2 (fX10_findShortest sg) (fun y2 sg3 => (if y2 = 0 then some (v1, sg3) else bnd2 (fX10_useUp y2 sg3) (fun y6 sg7 => bnd1 (fX10_keepFound y2 y6 sg7) (fun sg9 => lt (v1 + y6.toInt64) (fun x11 => lt (v3 + (1 : Int32)) (fun x12 => r20 (x11, x12, sg9))))))))
set_option maxHeartbeats 4000000 in
set_option maxRecDepth 100000 in
theorem tX10_packAll_20 (C : Cx p s m args meth c cX10_packAll 6 RX10 wsX10_packAll (some .long) D vwCl (tysC T) A true nwL) {ro : Int64} {so : Sg} {r20 : (Int64 × Int32 × Sg) → Option (Int64 × Sg)} (hr20 : ∀ (v1 : Int64) (v3 : Int32) (sg : Sg), r20 (v1, v3, sg) = some (ro, so) → ∀ (H : Heap) (locs : List Loc) (ls : Array Slot), WS ZC D vwCl T ad sg lg A s.heap H locs → lv_has ls 6 [(0, .ref (ad 8)), (1, .long v1), (3, .int v3)] → W p l e rmX10_packAll s m args below meth c H locs 0 0 (MQ below (QL ZC D vwCl T (tysC T) A (fun z => ad = z) ro so lg) args s 0 0 A) (F0 m 20 ls [])) : ∀ (v1 : Int64) (v3 : Int32) (sg : Sg), ∀ (H : Heap) (locs : List Loc) (ls : Array Slot), WS ZC D vwCl T ad sg lg A s.heap H locs → lv_has ls 6 [(0, .ref (ad 8)), (1, .long v1), (3, .int v3)] → fX10_packAll_20 r20 v1 v3 sg = some (ro, so) → W p l e rmX10_packAll s m args below meth c H locs 0 0 (MQ below (QL ZC D vwCl T (tysC T) A (fun z => ad = z) ro so lg) args s 0 0 A) (F0 m 20 ls []) := by
  obtain ⟨⟨hx, hb, hml, hown, hts⟩, hr, hlk, hK, hA, hsp⟩ := id C
  intro v1 v3 sg H locs ls hw hl h
  unfold fX10_packAll_20 at h
  refine lv_iload_n hx hb dX10_packAll_20 rfl (lv_at hl 2 rfl) ?_
  refine lv_sipush (v := (132 : Int32)) hx hb dX10_packAll_21 (by decide) ?_
  refine lv_icmp_ge (tgt := 69) hx hb dX10_packAll_24 (by decide) (fun c1 => ?_) (fun c1 => ?_)
  · replace h := ite_t h c1
    refine lv_lload_n hx hb dX10_packAll_69 rfl (lv_at hl 1 rfl) ?_
    cases h
    exact r_lret C hw rfl (by decide) (by decide) dX10_packAll_70
  · replace h := ite_f h c1
    refine lv_aload_n hx hb dX10_packAll_27 rfl (lv_at hl 0 rfl) ?_
    obtain ⟨y2, sg3, hq4, h2⟩ := bnd2_some h
    replace h := h2
    clear h2
    refine r_cVi (As := []) (rest := []) C hw 8 (by decide) (ci := 10) rfl rfl (mX10_findShortest l D T ad lg H.size sg hq4) (cwV 0 hts gX10_packAll_X10_findShortest rfl rfl rfl (by decide +kernel) ⟨Nat.le_of_ble_eq_true rfl, Nat.le_of_ble_eq_true rfl⟩) rfl hl.1 rfl (Nat.le_of_ble_eq_true rfl) dX10_packAll_28 ⟨Nat.le_of_ble_eq_true rfl, Nat.le_of_ble_eq_true rfl⟩ (fun ad' H locs hp hw => ?_)
    subst hp
    refine W.widen (k := 0) (n := 0) (by decide) (by decide) ?_
    refine lv_istore (lv' := [(4, .int y2), (0, .ref (ad 8)), (1, .long v1), (3, .int v3)]) hx hb dX10_packAll_31 hl (by decide) rfl (fun ls hl => ?_)
    refine lv_iload hx hb dX10_packAll_33 (lv_at hl 0 rfl) ?_
    refine lv_if_ne (tgt := 41) hx hb dX10_packAll_35 (by decide) (fun c5 => ?_) (fun c5 => ?_)
    · replace h := ite_f h c5
      refine lv_aload_n hx hb dX10_packAll_41 rfl (lv_at hl 1 rfl) ?_
      refine lv_iload hx hb dX10_packAll_42 (lv_at hl 0 rfl) ?_
      obtain ⟨y6, sg7, hq8, h2⟩ := bnd2_some h
      replace h := h2
      clear h2
      refine r_cVi (As := [.int y2]) (rest := []) C hw 8 (by decide) (ci := 10) rfl rfl (mX10_useUp l D T ad lg H.size y2 sg3 hq8) (cwV 1 hts gX10_packAll_X10_useUp rfl rfl rfl (by decide +kernel) ⟨Nat.le_of_ble_eq_true rfl, Nat.le_of_ble_eq_true rfl⟩) rfl hl.1 rfl (Nat.le_of_ble_eq_true rfl) dX10_packAll_44 ⟨Nat.le_of_ble_eq_true rfl, Nat.le_of_ble_eq_true rfl⟩ (fun ad' H locs hp hw => ?_)
      subst hp
      refine W.widen (k := 0) (n := 0) (by decide) (by decide) ?_
      refine lv_istore (lv' := [(5, .int y6), (4, .int y2), (0, .ref (ad 8)), (1, .long v1), (3, .int v3)]) hx hb dX10_packAll_47 hl (by decide) rfl (fun ls hl => ?_)
      refine lv_aload_n hx hb dX10_packAll_49 rfl (lv_at hl 2 rfl) ?_
      refine lv_iload hx hb dX10_packAll_50 (lv_at hl 1 rfl) ?_
      refine lv_iload hx hb dX10_packAll_52 (lv_at hl 0 rfl) ?_
      obtain ⟨sg9, hq10, h2⟩ := bnd1_some h
      replace h := h2
      clear h2
      refine r_cVv (As := [.int y2, .int y6]) (rest := []) C hw 8 (by decide) (ci := 10) rfl rfl (mX10_keepFound l D T ad lg H.size y2 y6 sg7 hq10) (cwV 2 hts gX10_packAll_X10_keepFound rfl rfl rfl (by decide +kernel) ⟨Nat.le_of_ble_eq_true rfl, Nat.le_of_ble_eq_true rfl⟩) rfl hl.1 rfl (Nat.le_of_ble_eq_true rfl) dX10_packAll_54 ⟨Nat.le_of_ble_eq_true rfl, Nat.le_of_ble_eq_true rfl⟩ (fun ad' H locs hp hw => ?_)
      subst hp
      refine W.widen (k := 0) (n := 0) (by decide) (by decide) ?_
      refine lv_lload_n hx hb dX10_packAll_57 rfl (lv_at hl 3 rfl) ?_
      refine lv_iload hx hb dX10_packAll_58 (lv_at hl 0 rfl) ?_
      refine lv_i2l (v := y6.toInt64) hx hb dX10_packAll_60 rfl ?_
      refine lv_ladd hx hb dX10_packAll_61 ?_
      refine lv_topl (fun x11 ex11 => ?_)
      replace h := lt_get h x11 ex11
      refine lv_lstore_n (lv' := [(1, .long x11), (5, .int y6), (4, .int y2), (0, .ref (ad 8)), (3, .int v3)]) hx hb dX10_packAll_62 rfl hl (by decide) rfl (fun ls hl => ?_)
      obtain ⟨x12, ex12⟩ : ∃ z : Int32, z = (v3 + (1 : Int32)) := ⟨_, rfl⟩
      replace h := lt_get h x12 ex12
      refine lv_iinc (v := x12) (lv' := [(3, .int x12), (1, .long x11), (5, .int y6), (4, .int y2), (0, .ref (ad 8))]) hx hb dX10_packAll_63 hl (k := 4) rfl (by rw [ex12]; rfl) (by decide) rfl (fun ls hl => ?_)
      refine lv_goto (tgt := 20) hx hb dX10_packAll_66 (by decide) ?_
      exact hr20 x11 x12 sg9 h _ _ _ hw (lv_sub hl [4, 1, 0] rfl)
    · replace h := ite_t h c5
      refine lv_goto (tgt := 69) hx hb dX10_packAll_38 (by decide) ?_
      refine lv_lload_n hx hb dX10_packAll_69 rfl (lv_at hl 2 rfl) ?_
      cases h
      exact r_lret C hw rfl (by decide) (by decide) dX10_packAll_70
def LX10_packAll_20  : (Int64 × Int32 × Sg) → Option (Int64 × Sg) := loop (fun rec z => fX10_packAll_20 rec z.1 z.2.1 z.2.2)
theorem TX10_packAll_20 (C : Cx p s m args meth c cX10_packAll 6 RX10 wsX10_packAll (some .long) D vwCl (tysC T) A true nwL) {ro : Int64} {so : Sg}   : ∀ (v1 : Int64) (v3 : Int32) (sg : Sg), LX10_packAll_20 (v1, v3, sg) = some (ro, so) → ∀ (H : Heap) (locs : List Loc) (ls : Array Slot), WS ZC D vwCl T ad sg lg A s.heap H locs → lv_has ls 6 [(0, .ref (ad 8)), (1, .long v1), (3, .int v3)] → W p l e rmX10_packAll s m args below meth c H locs 0 0 (MQ below (QL ZC D vwCl T (tysC T) A (fun z => ad = z) ro so lg) args s 0 0 A) (F0 m 20 ls []) := by
  have key : ∀ z : (Int64 × Int32 × Sg), LX10_packAll_20  z = some (ro, so) → ∀ (H : Heap) (locs : List Loc) (ls : Array Slot), WS ZC D vwCl T ad z.2.2 lg A s.heap H locs → lv_has ls 6 [(0, .ref (ad 8)), (1, .long z.1), (3, .int z.2.1)] → W p l e rmX10_packAll s m args below meth c H locs 0 0 (MQ below (QL ZC D vwCl T (tysC T) A (fun z => ad = z) ro so lg) args s 0 0 A) (F0 m 20 ls []) := by
    intro z h
    unfold LX10_packAll_20 at h
    exact loop_ind (fun rec z => fX10_packAll_20 rec z.1 z.2.1 z.2.2) (y := (ro, so)) (P := fun z => ∀ (H : Heap) (locs : List Loc) (ls : Array Slot), WS ZC D vwCl T ad z.2.2 lg A s.heap H locs → lv_has ls 6 [(0, .ref (ad 8)), (1, .long z.1), (3, .int z.2.1)] → W p l e rmX10_packAll s m args below meth c H locs 0 0 (MQ below (QL ZC D vwCl T (tysC T) A (fun z => ad = z) ro so lg) args s 0 0 A) (F0 m 20 ls [])) (fun rec hrec z h H locs ls hw hl => tX10_packAll_20 C  (fun v1 v3 sg => hrec (v1, v3, sg)) z.1 z.2.1 z.2.2 H locs ls hw hl h) z h
  exact fun v1 v3 sg => key (v1, v3, sg)
def fX10_packAll  (sg : Sg) : Option (Int64 × Sg) :=
  bnd1 (fX8_gather sg) (fun sg1 => bnd1 (fX10_takeAllPecks sg1) (fun sg3 => lt (up2 sg3 8 1 (0 : Int32)) (fun sg5 => LX10_packAll_20 ((0 : Int64), (0 : Int32), sg5))))
set_option maxHeartbeats 4000000 in
set_option maxRecDepth 100000 in
theorem tX10_packAll_0 (C : Cx p s m args meth c cX10_packAll 6 RX10 wsX10_packAll (some .long) D vwCl (tysC T) A true nwL) {ro : Int64} {so : Sg}   : ∀ (sg : Sg), ∀ (H : Heap) (locs : List Loc) (ls : Array Slot), WS ZC D vwCl T ad sg lg A s.heap H locs → lv_has ls 6 [(0, .ref (ad 8))] → fX10_packAll sg = some (ro, so) → W p l e rmX10_packAll s m args below meth c H locs 0 0 (MQ below (QL ZC D vwCl T (tysC T) A (fun z => ad = z) ro so lg) args s 0 0 A) (F0 m 0 ls []) := by
  obtain ⟨⟨hx, hb, hml, hown, hts⟩, hr, hlk, hK, hA, hsp⟩ := id C
  intro sg H locs ls hw hl h
  unfold fX10_packAll at h
  refine lv_aload_n hx hb dX10_packAll_0 rfl (lv_at hl 0 rfl) ?_
  refine r_getR (ci := 10) (C := RX10) (U := TX10) (N := 10) hx hb hts kX10_packAll_iX10 hown hK hw 8 (by decide) rfl rfl 0 (by decide) 3 rfl (hts _ kX10_packAll_f36) (fun _ h9 => h9) dX10_packAll_1 ?_
  obtain ⟨sg1, hq2, h2⟩ := bnd1_some h
  replace h := h2
  clear h2
  refine r_cVv (As := []) (rest := []) C hw 3 (by decide) (ci := 8) rfl rfl (mX8_gather l D T ad lg H.size sg hq2) (cwV 0 hts gX10_packAll_X8_gather rfl rfl rfl (by decide +kernel) ⟨Nat.le_of_ble_eq_true rfl, Nat.le_of_ble_eq_true rfl⟩) rfl hl.1 rfl (Nat.le_of_ble_eq_true rfl) dX10_packAll_4 ⟨Nat.le_of_ble_eq_true rfl, Nat.le_of_ble_eq_true rfl⟩ (fun ad' H locs hp hw => ?_)
  subst hp
  refine W.widen (k := 0) (n := 0) (by decide) (by decide) ?_
  refine lv_aload_n hx hb dX10_packAll_7 rfl (lv_at hl 0 rfl) ?_
  obtain ⟨sg3, hq4, h2⟩ := bnd1_some h
  replace h := h2
  clear h2
  refine r_cVv (As := []) (rest := []) C hw 8 (by decide) (ci := 10) rfl rfl (mX10_takeAllPecks l D T ad lg H.size sg1 hq4) (cwV 0 hts gX10_packAll_X10_takeAllPecks rfl rfl rfl (by decide +kernel) ⟨Nat.le_of_ble_eq_true rfl, Nat.le_of_ble_eq_true rfl⟩) rfl hl.1 rfl (Nat.le_of_ble_eq_true rfl) dX10_packAll_8 ⟨Nat.le_of_ble_eq_true rfl, Nat.le_of_ble_eq_true rfl⟩ (fun ad' H locs hp hw => ?_)
  subst hp
  refine W.widen (k := 0) (n := 0) (by decide) (by decide) ?_
  refine lv_aload_n hx hb dX10_packAll_11 rfl (lv_at hl 0 rfl) ?_
  refine lv_iconst (v := (0 : Int32)) hx hb dX10_packAll_12 (by decide) ?_
  refine r_putI ZC_ok (ci := 10) (C := RX10) (U := TX10) (N := 10) (ty := .int) hx hb hts kX10_packAll_iX10 tyX10 tyX10_ok nmX10 hown hK hw 8 (by decide) rfl rfl 1 (by decide) rfl (hts _ kX10_packAll_f48) (fun _ h9 => h9) rfl (by decide +kernel) rfl rfl dX10_packAll_13 (fun H locs sg5 esg5 hw => ?_)
  replace h := lt_get h sg5 esg5
  refine lv_lconst (v := (0 : Int64)) hx hb dX10_packAll_16 (by decide) ?_
  refine lv_lstore_n (lv' := [(1, .long (0 : Int64)), (0, .ref (ad 8))]) hx hb dX10_packAll_17 rfl hl (by decide) rfl (fun ls hl => ?_)
  refine lv_iconst (v := (0 : Int32)) hx hb dX10_packAll_18 (by decide) ?_
  refine lv_istore_n (lv' := [(3, .int (0 : Int32)), (1, .long (0 : Int64)), (0, .ref (ad 8))]) hx hb dX10_packAll_19 rfl hl (by decide) rfl (fun ls hl => ?_)
  exact TX10_packAll_20 C (0 : Int64) (0 : Int32) sg5 h _ _ _ hw (lv_sub hl [2, 1, 0] rfl)
theorem mX10_packAll (l : Launch) (D : va_G) (T : Nat → ClassId) (ad : Nat → Nat) (lg : Lg) (sz : Nat)   (sg : Sg) {ro : Int64} {so : Sg} (h : fX10_packAll sg = some (ro, so)) : Met l yX10_packAll wsX10_packAll rmX10_packAll (PreZ ZC D vwCl T (tysC T) ad sg lg true nwL [.ref (ad 8)] sz) (QL ZC D vwCl T (tysC T) (va_A (zwd ZC T ad sg lg) sz) (fun z => ad = z) ro so lg) 0 0 (va_A (zwd ZC T ad sg lg) sz) :=
  metZ [.ref (ad 8)] sz (by decide) rfl (Nat.le_of_ble_eq_true rfl) (fun p e s m below meth c ls C hw hl => tX10_packAll_0 C sg _ _ _ hw hl h)
-- PeckYard.pack()J
def rmX11_pack : Room := { frames := 5, cells := 0, slots := 0, locals := 117 }
theorem kX11_pack_f65 : Cond.fieldLink RX11 65 "PeckYard" "rings" "LPeckYard$Rings;" ∈ wsX11_pack := by decide +kernel
theorem kX11_pack_iX11 : ∀ w ∈ u_ws RX11 TX11 9, w ∈ wsX11_pack := by decide +kernel
def fX11_pack  (sg : Sg) : Option (Int64 × Sg) :=
  bnd2 (fX10_packAll sg) (fun y1 sg2 => some (y1, sg2))
set_option maxHeartbeats 4000000 in
set_option maxRecDepth 100000 in
theorem tX11_pack_0 (C : Cx p s m args meth c cX11_pack 1 RX11 wsX11_pack (some .long) D vwCl (tysC T) A true nwL) {ro : Int64} {so : Sg}   : ∀ (sg : Sg), ∀ (H : Heap) (locs : List Loc) (ls : Array Slot), WS ZC D vwCl T ad sg lg A s.heap H locs → lv_has ls 1 [(0, .ref (ad 0))] → fX11_pack sg = some (ro, so) → W p l e rmX11_pack s m args below meth c H locs 0 0 (MQ below (QL ZC D vwCl T (tysC T) A (fun z => ad = z) ro so lg) args s 0 0 A) (F0 m 0 ls []) := by
  obtain ⟨⟨hx, hb, hml, hown, hts⟩, hr, hlk, hK, hA, hsp⟩ := id C
  intro sg H locs ls hw hl h
  unfold fX11_pack at h
  refine lv_aload_n hx hb dX11_pack_0 rfl (lv_at hl 0 rfl) ?_
  refine r_getR (ci := 11) (C := RX11) (U := TX11) (N := 9) hx hb hts kX11_pack_iX11 hown hK hw 0 (by decide) rfl rfl 7 (by decide) 8 rfl (hts _ kX11_pack_f65) (fun _ h9 => h9) dX11_pack_1 ?_
  obtain ⟨y1, sg2, hq3, h2⟩ := bnd2_some h
  replace h := h2
  clear h2
  refine r_cVl (As := []) (rest := []) C hw 8 (by decide) (ci := 10) rfl rfl (mX10_packAll l D T ad lg H.size sg hq3) (cwV 0 hts gX11_pack_X10_packAll rfl rfl rfl (by decide +kernel) ⟨Nat.le_of_ble_eq_true rfl, Nat.le_of_ble_eq_true rfl⟩) rfl hl.1 rfl (Nat.le_of_ble_eq_true rfl) dX11_pack_4 ⟨Nat.le_of_ble_eq_true rfl, Nat.le_of_ble_eq_true rfl⟩ (fun ad' H locs hp hw => ?_)
  subst hp
  refine W.widen (k := 0) (n := 0) (by decide) (by decide) ?_
  cases h
  exact r_lret C hw rfl (by decide) (by decide) dX11_pack_7
theorem mX11_pack (l : Launch) (D : va_G) (T : Nat → ClassId) (ad : Nat → Nat) (lg : Lg) (sz : Nat)   (sg : Sg) {ro : Int64} {so : Sg} (h : fX11_pack sg = some (ro, so)) : Met l yX11_pack wsX11_pack rmX11_pack (PreZ ZC D vwCl T (tysC T) ad sg lg true nwL [.ref (ad 0)] sz) (QL ZC D vwCl T (tysC T) (va_A (zwd ZC T ad sg lg) sz) (fun z => ad = z) ro so lg) 0 0 (va_A (zwd ZC T ad sg lg) sz) :=
  metZ [.ref (ad 0)] sz (by decide) rfl (Nat.le_of_ble_eq_true rfl) (fun p e s m below meth c ls C hw hl => tX11_pack_0 C sg _ _ _ hw hl h)
-- PeckYard$Rings.tell(II)J
def rmX10_tell : Room := { frames := 0, cells := 0, slots := 0, locals := 0 }
theorem kX10_tell_f15 : Cond.fieldLink RX10 15 "PeckYard$Rings" "lengths" "[I" ∈ wsX10_tell := by decide +kernel
theorem kX10_tell_iX10 : ∀ w ∈ u_ws RX10 TX10 10, w ∈ wsX10_tell := by decide +kernel
theorem kX10_tell_c111 : Cond.constantLong RX10 111 (-2000000005) ∈ wsX10_tell := by decide +kernel
theorem kX10_tell_f18 : Cond.fieldLink RX10 18 "PeckYard$Rings" "members" "[I" ∈ wsX10_tell := by decide +kernel
theorem kX10_tell_f11 : Cond.fieldLink RX10 11 "PeckYard$Rings" "shares" "[I" ∈ wsX10_tell := by decide +kernel
def fX10_tell  (v1 : Int32) (v2 : Int32) (sg : Sg) : Option (Int64 × Sg) :=
  (if v2 = 0 then gin v1 132 (some ((sg 37 v1.toNatClampNeg).toInt64, sg)) else (if v2 = (1 : Int32) then gin v1 132 (some ((sg 38 v1.toNatClampNeg).toInt64, sg)) else gin v1 132 ((if (sg 38 v1.toNatClampNeg) ≤ (v2 - (2 : Int32)) then some ((-2000000005 : Int64), sg) else lt (((v1 * (12 : Int32)) + v2) - (2 : Int32)) (fun x5 => gin x5 1584 (some ((sg 39 x5.toNatClampNeg).toInt64, sg)))))))
set_option maxHeartbeats 4000000 in
set_option maxRecDepth 100000 in
theorem tX10_tell_0 (C : Cx p s m args meth c cX10_tell 3 RX10 wsX10_tell (some .long) D vwCl (tysC T) A true nwL) {ro : Int64} {so : Sg}   : ∀ (v1 : Int32) (v2 : Int32) (sg : Sg), ∀ (H : Heap) (locs : List Loc) (ls : Array Slot), WS ZC D vwCl T ad sg lg A s.heap H locs → lv_has ls 3 [(0, .ref (ad 8)), (1, .int v1), (2, .int v2)] → fX10_tell v1 v2 sg = some (ro, so) → W p l e rmX10_tell s m args below meth c H locs 0 0 (MQ below (QL ZC D vwCl T (tysC T) A (fun z => ad = z) ro so lg) args s 0 0 A) (F0 m 0 ls []) := by
  obtain ⟨⟨hx, hb, hml, hown, hts⟩, hr, hlk, hK, hA, hsp⟩ := id C
  intro v1 v2 sg H locs ls hw hl h
  unfold fX10_tell at h
  refine lv_iload_n hx hb dX10_tell_0 rfl (lv_at hl 2 rfl) ?_
  refine lv_if_ne (tgt := 12) hx hb dX10_tell_1 (by decide) (fun c1 => ?_) (fun c1 => ?_)
  · replace h := ite_f h c1
    refine lv_iload_n hx hb dX10_tell_12 rfl (lv_at hl 2 rfl) ?_
    refine lv_iconst (v := (1 : Int32)) hx hb dX10_tell_13 (by decide) ?_
    refine lv_icmp_ne (tgt := 25) hx hb dX10_tell_14 (by decide) (fun c2 => ?_) (fun c2 => ?_)
    · replace h := ite_f h c2
      refine lv_iload_n hx hb dX10_tell_25 rfl (lv_at hl 2 rfl) ?_
      refine lv_iconst (v := (2 : Int32)) hx hb dX10_tell_26 (by decide) ?_
      refine lv_isub hx hb dX10_tell_27 ?_
      refine lv_aload_n hx hb dX10_tell_28 rfl (lv_at hl 0 rfl) ?_
      refine r_getR (ci := 10) (C := RX10) (U := TX10) (N := 10) hx hb hts kX10_tell_iX10 hown hK hw 8 (by decide) rfl rfl 3 (by decide) 38 rfl (hts _ kX10_tell_f15) (fun _ h9 => h9) dX10_tell_29 ?_
      refine lv_iload_n hx hb dX10_tell_32 rfl (lv_at hl 1 rfl) ?_
      have hi3 := (gin_some h).1
      replace h := (gin_some h).2
      refine r_iald hx hb hK hw 38 0 132 (by decide) rfl rfl rfl hi3 dX10_tell_33 ?_
      refine lv_icmp_ge (tgt := 54) hx hb dX10_tell_34 (by decide) (fun c4 => ?_) (fun c4 => ?_)
      · replace h := ite_t h c4
        refine lv_ldc2 hx hb hown (hts _ kX10_tell_c111) dX10_tell_54 ?_
        cases h
        exact r_lret C hw rfl (by decide) (by decide) dX10_tell_57
      · replace h := ite_f h c4
        refine lv_aload_n hx hb dX10_tell_37 rfl (lv_at hl 0 rfl) ?_
        refine r_getR (ci := 10) (C := RX10) (U := TX10) (N := 10) hx hb hts kX10_tell_iX10 hown hK hw 8 (by decide) rfl rfl 4 (by decide) 39 rfl (hts _ kX10_tell_f18) (fun _ h9 => h9) dX10_tell_38 ?_
        refine lv_iload_n hx hb dX10_tell_41 rfl (lv_at hl 1 rfl) ?_
        refine lv_bipush (v := (12 : Int32)) hx hb dX10_tell_42 (by decide) ?_
        refine lv_imul hx hb dX10_tell_44 ?_
        refine lv_iload_n hx hb dX10_tell_45 rfl (lv_at hl 2 rfl) ?_
        refine lv_iadd hx hb dX10_tell_46 ?_
        refine lv_iconst (v := (2 : Int32)) hx hb dX10_tell_47 (by decide) ?_
        refine lv_isub hx hb dX10_tell_48 ?_
        refine lv_topi (fun x5 ex5 => ?_)
        replace h := lt_get h x5 ex5
        have hi6 := (gin_some h).1
        replace h := (gin_some h).2
        refine r_iald hx hb hK hw 39 0 1584 (by decide) rfl rfl rfl hi6 dX10_tell_49 ?_
        refine lv_i2l (v := (sg 39 x5.toNatClampNeg).toInt64) hx hb dX10_tell_50 rfl ?_
        refine lv_goto (tgt := 57) hx hb dX10_tell_51 (by decide) ?_
        cases h
        exact r_lret C hw rfl (by decide) (by decide) dX10_tell_57
    · replace h := ite_t h c2
      refine lv_aload_n hx hb dX10_tell_17 rfl (lv_at hl 0 rfl) ?_
      refine r_getR (ci := 10) (C := RX10) (U := TX10) (N := 10) hx hb hts kX10_tell_iX10 hown hK hw 8 (by decide) rfl rfl 3 (by decide) 38 rfl (hts _ kX10_tell_f15) (fun _ h9 => h9) dX10_tell_18 ?_
      refine lv_iload_n hx hb dX10_tell_21 rfl (lv_at hl 1 rfl) ?_
      have hi7 := (gin_some h).1
      replace h := (gin_some h).2
      refine r_iald hx hb hK hw 38 0 132 (by decide) rfl rfl rfl hi7 dX10_tell_22 ?_
      refine lv_i2l (v := (sg 38 v1.toNatClampNeg).toInt64) hx hb dX10_tell_23 rfl ?_
      cases h
      exact r_lret C hw rfl (by decide) (by decide) dX10_tell_24
  · replace h := ite_t h c1
    refine lv_aload_n hx hb dX10_tell_4 rfl (lv_at hl 0 rfl) ?_
    refine r_getR (ci := 10) (C := RX10) (U := TX10) (N := 10) hx hb hts kX10_tell_iX10 hown hK hw 8 (by decide) rfl rfl 2 (by decide) 37 rfl (hts _ kX10_tell_f11) (fun _ h9 => h9) dX10_tell_5 ?_
    refine lv_iload_n hx hb dX10_tell_8 rfl (lv_at hl 1 rfl) ?_
    have hi8 := (gin_some h).1
    replace h := (gin_some h).2
    refine r_iald hx hb hK hw 37 0 132 (by decide) rfl rfl rfl hi8 dX10_tell_9 ?_
    refine lv_i2l (v := (sg 37 v1.toNatClampNeg).toInt64) hx hb dX10_tell_10 rfl ?_
    cases h
    exact r_lret C hw rfl (by decide) (by decide) dX10_tell_11
theorem mX10_tell (l : Launch) (D : va_G) (T : Nat → ClassId) (ad : Nat → Nat) (lg : Lg) (sz : Nat)   (v1 : Int32) (v2 : Int32) (sg : Sg) {ro : Int64} {so : Sg} (h : fX10_tell v1 v2 sg = some (ro, so)) : Met l yX10_tell wsX10_tell rmX10_tell (PreZ ZC D vwCl T (tysC T) ad sg lg true nwL [.ref (ad 8), .int v1, .int v2] sz) (QL ZC D vwCl T (tysC T) (va_A (zwd ZC T ad sg lg) sz) (fun z => ad = z) ro so lg) 0 0 (va_A (zwd ZC T ad sg lg) sz) :=
  metZ [.ref (ad 8), .int v1, .int v2] sz (by decide) rfl (Nat.le_of_ble_eq_true rfl) (fun p e s m below meth c ls C hw hl => tX10_tell_0 C v1 v2 sg _ _ _ hw hl h)
-- PeckYard.ring(II)J
def rmX11_ring : Room := { frames := 1, cells := 0, slots := 0, locals := 22 }
theorem kX11_ring_c88 : Cond.constantLong RX11 88 (-2000000001) ∈ wsX11_ring := by decide +kernel
theorem kX11_ring_f65 : Cond.fieldLink RX11 65 "PeckYard" "rings" "LPeckYard$Rings;" ∈ wsX11_ring := by decide +kernel
theorem kX11_ring_iX11 : ∀ w ∈ u_ws RX11 TX11 9, w ∈ wsX11_ring := by decide +kernel
theorem kX11_ring_f238 : Cond.fieldLink RX11 238 "PeckYard$Rings" "size" "I" ∈ wsX11_ring := by decide +kernel
theorem kX11_ring_iX10 : ∀ w ∈ u_ws RX10 TX10 10, w ∈ wsX11_ring := by decide +kernel
theorem kX11_ring_c140 : Cond.constantLong RX11 140 (-2000000005) ∈ wsX11_ring := by decide +kernel
def fX11_ring  (v1 : Int32) (v2 : Int32) (sg : Sg) : Option (Int64 × Sg) :=
  (if v1 < 0 then some ((-2000000001 : Int64), sg) else (if 0 ≤ v2 then (if (sg 8 1) ≤ v1 then some ((-2000000005 : Int64), sg) else bnd2 (fX10_tell v1 v2 sg) (fun y4 sg5 => some (y4, sg5))) else some ((-2000000001 : Int64), sg)))
set_option maxHeartbeats 4000000 in
set_option maxRecDepth 100000 in
theorem tX11_ring_0 (C : Cx p s m args meth c cX11_ring 3 RX11 wsX11_ring (some .long) D vwCl (tysC T) A true nwL) {ro : Int64} {so : Sg}   : ∀ (v1 : Int32) (v2 : Int32) (sg : Sg), ∀ (H : Heap) (locs : List Loc) (ls : Array Slot), WS ZC D vwCl T ad sg lg A s.heap H locs → lv_has ls 3 [(0, .ref (ad 0)), (1, .int v1), (2, .int v2)] → fX11_ring v1 v2 sg = some (ro, so) → W p l e rmX11_ring s m args below meth c H locs 0 0 (MQ below (QL ZC D vwCl T (tysC T) A (fun z => ad = z) ro so lg) args s 0 0 A) (F0 m 0 ls []) := by
  obtain ⟨⟨hx, hb, hml, hown, hts⟩, hr, hlk, hK, hA, hsp⟩ := id C
  intro v1 v2 sg H locs ls hw hl h
  unfold fX11_ring at h
  refine lv_iload_n hx hb dX11_ring_0 rfl (lv_at hl 1 rfl) ?_
  refine lv_if_lt (tgt := 8) hx hb dX11_ring_1 (by decide) (fun c1 => ?_) (fun c1 => ?_)
  · replace h := ite_t h c1
    refine lv_ldc2 hx hb hown (hts _ kX11_ring_c88) dX11_ring_8 ?_
    cases h
    exact r_lret C hw rfl (by decide) (by decide) dX11_ring_11
  · replace h := ite_f h c1
    refine lv_iload_n hx hb dX11_ring_4 rfl (lv_at hl 2 rfl) ?_
    refine lv_if_ge (tgt := 12) hx hb dX11_ring_5 (by decide) (fun c2 => ?_) (fun c2 => ?_)
    · replace h := ite_t h c2
      refine lv_iload_n hx hb dX11_ring_12 rfl (lv_at hl 1 rfl) ?_
      refine lv_aload_n hx hb dX11_ring_13 rfl (lv_at hl 0 rfl) ?_
      refine r_getR (ci := 11) (C := RX11) (U := TX11) (N := 9) hx hb hts kX11_ring_iX11 hown hK hw 0 (by decide) rfl rfl 7 (by decide) 8 rfl (hts _ kX11_ring_f65) (fun _ h9 => h9) dX11_ring_14 ?_
      refine r_getI (ci := 10) (C := RX10) (U := TX10) (N := 10) hx hb hts kX11_ring_iX10 hown hK hw 8 (by decide) rfl rfl 1 (by decide) rfl (hts _ kX11_ring_f238) (fun _ h9 => h9) dX11_ring_17 ?_
      refine lv_icmp_ge (tgt := 35) hx hb dX11_ring_20 (by decide) (fun c3 => ?_) (fun c3 => ?_)
      · replace h := ite_t h c3
        refine lv_ldc2 hx hb hown (hts _ kX11_ring_c140) dX11_ring_35 ?_
        cases h
        exact r_lret C hw rfl (by decide) (by decide) dX11_ring_38
      · replace h := ite_f h c3
        refine lv_aload_n hx hb dX11_ring_23 rfl (lv_at hl 0 rfl) ?_
        refine r_getR (ci := 11) (C := RX11) (U := TX11) (N := 9) hx hb hts kX11_ring_iX11 hown hK hw 0 (by decide) rfl rfl 7 (by decide) 8 rfl (hts _ kX11_ring_f65) (fun _ h9 => h9) dX11_ring_24 ?_
        refine lv_iload_n hx hb dX11_ring_27 rfl (lv_at hl 1 rfl) ?_
        refine lv_iload_n hx hb dX11_ring_28 rfl (lv_at hl 2 rfl) ?_
        obtain ⟨y4, sg5, hq6, h2⟩ := bnd2_some h
        replace h := h2
        clear h2
        refine r_cVl (As := [.int v1, .int v2]) (rest := []) C hw 8 (by decide) (ci := 10) rfl rfl (mX10_tell l D T ad lg H.size v1 v2 sg hq6) (cwV 2 hts gX11_ring_X10_tell rfl rfl rfl (by decide +kernel) ⟨Nat.le_of_ble_eq_true rfl, Nat.le_of_ble_eq_true rfl⟩) rfl hl.1 rfl (Nat.le_of_ble_eq_true rfl) dX11_ring_29 ⟨Nat.le_of_ble_eq_true rfl, Nat.le_of_ble_eq_true rfl⟩ (fun ad' H locs hp hw => ?_)
        subst hp
        refine W.widen (k := 0) (n := 0) (by decide) (by decide) ?_
        refine lv_goto (tgt := 38) hx hb dX11_ring_32 (by decide) ?_
        cases h
        exact r_lret C hw rfl (by decide) (by decide) dX11_ring_38
    · replace h := ite_f h c2
      refine lv_ldc2 hx hb hown (hts _ kX11_ring_c88) dX11_ring_8 ?_
      cases h
      exact r_lret C hw rfl (by decide) (by decide) dX11_ring_11
theorem mX11_ring (l : Launch) (D : va_G) (T : Nat → ClassId) (ad : Nat → Nat) (lg : Lg) (sz : Nat)   (v1 : Int32) (v2 : Int32) (sg : Sg) {ro : Int64} {so : Sg} (h : fX11_ring v1 v2 sg = some (ro, so)) : Met l yX11_ring wsX11_ring rmX11_ring (PreZ ZC D vwCl T (tysC T) ad sg lg true nwL [.ref (ad 0), .int v1, .int v2] sz) (QL ZC D vwCl T (tysC T) (va_A (zwd ZC T ad sg lg) sz) (fun z => ad = z) ro so lg) 0 0 (va_A (zwd ZC T ad sg lg) sz) :=
  metZ [.ref (ad 0), .int v1, .int v2] sz (by decide) rfl (Nat.le_of_ble_eq_true rfl) (fun p e s m below meth c ls C hw hl => tX11_ring_0 C v1 v2 sg _ _ _ hw hl h)
-- PeckYard$Muster.allPecks()J
def rmX8_allPecks : Room := { frames := 1, cells := 0, slots := 0, locals := 22 }
theorem kX8_allPecks_f44 : Cond.fieldLink RX8 44 "PeckYard$Muster" "size" "I" ∈ wsX8_allPecks := by decide +kernel
theorem kX8_allPecks_iX8 : ∀ w ∈ u_ws RX8 TX8 10, w ∈ wsX8_allPecks := by decide +kernel
def fX8_allPecks_15 (r4 : (Int64 × Int32 × Sg) → Option (Int64 × Sg)) (r15 : (Int64 × Int32 × Int32 × Sg) → Option (Int64 × Sg)) (v1 : Int64) (v3 : Int32) (v4 : Int32) (sg : Sg) : Option (Int64 × Sg) :=
  (if (sg 3 2) ≤ v4 then lt (v3 + (1 : Int32)) (fun x2 => r4 (v1, x2, sg)) else bnd2 (fX8_peckOf v3 v4 sg) (fun y3 sg4 => lt (v1 + y3.toInt64) (fun x6 => lt (v4 + (1 : Int32)) (fun x7 => r15 (x6, v3, x7, sg4)))))
set_option maxHeartbeats 4000000 in
set_option maxRecDepth 100000 in
theorem tX8_allPecks_15 (C : Cx p s m args meth c cX8_allPecks 5 RX8 wsX8_allPecks (some .long) D vwCl (tysC T) A true nwL) {ro : Int64} {so : Sg} {r4 : (Int64 × Int32 × Sg) → Option (Int64 × Sg)} {r15 : (Int64 × Int32 × Int32 × Sg) → Option (Int64 × Sg)} (hr4 : ∀ (v1 : Int64) (v3 : Int32) (sg : Sg), r4 (v1, v3, sg) = some (ro, so) → ∀ (H : Heap) (locs : List Loc) (ls : Array Slot), WS ZC D vwCl T ad sg lg A s.heap H locs → lv_has ls 5 [(0, .ref (ad 3)), (1, .long v1), (3, .int v3)] → W p l e rmX8_allPecks s m args below meth c H locs 0 0 (MQ below (QL ZC D vwCl T (tysC T) A (fun z => ad = z) ro so lg) args s 0 0 A) (F0 m 4 ls [])) (hr15 : ∀ (v1 : Int64) (v3 : Int32) (v4 : Int32) (sg : Sg), r15 (v1, v3, v4, sg) = some (ro, so) → ∀ (H : Heap) (locs : List Loc) (ls : Array Slot), WS ZC D vwCl T ad sg lg A s.heap H locs → lv_has ls 5 [(0, .ref (ad 3)), (1, .long v1), (3, .int v3), (4, .int v4)] → W p l e rmX8_allPecks s m args below meth c H locs 0 0 (MQ below (QL ZC D vwCl T (tysC T) A (fun z => ad = z) ro so lg) args s 0 0 A) (F0 m 15 ls [])) : ∀ (v1 : Int64) (v3 : Int32) (v4 : Int32) (sg : Sg), ∀ (H : Heap) (locs : List Loc) (ls : Array Slot), WS ZC D vwCl T ad sg lg A s.heap H locs → lv_has ls 5 [(0, .ref (ad 3)), (1, .long v1), (3, .int v3), (4, .int v4)] → fX8_allPecks_15 r4 r15 v1 v3 v4 sg = some (ro, so) → W p l e rmX8_allPecks s m args below meth c H locs 0 0 (MQ below (QL ZC D vwCl T (tysC T) A (fun z => ad = z) ro so lg) args s 0 0 A) (F0 m 15 ls []) := by
  obtain ⟨⟨hx, hb, hml, hown, hts⟩, hr, hlk, hK, hA, hsp⟩ := id C
  intro v1 v3 v4 sg H locs ls hw hl h
  unfold fX8_allPecks_15 at h
  refine lv_iload hx hb dX8_allPecks_15 (lv_at hl 3 rfl) ?_
  refine lv_aload_n hx hb dX8_allPecks_17 rfl (lv_at hl 0 rfl) ?_
  refine r_getI (ci := 8) (C := RX8) (U := TX8) (N := 10) hx hb hts kX8_allPecks_iX8 hown hK hw 3 (by decide) rfl rfl 2 (by decide) rfl (hts _ kX8_allPecks_f44) (fun _ h9 => h9) dX8_allPecks_18 ?_
  refine lv_icmp_ge (tgt := 41) hx hb dX8_allPecks_21 (by decide) (fun c1 => ?_) (fun c1 => ?_)
  · replace h := ite_t h c1
    obtain ⟨x2, ex2⟩ : ∃ z : Int32, z = (v3 + (1 : Int32)) := ⟨_, rfl⟩
    replace h := lt_get h x2 ex2
    refine lv_iinc (v := x2) (lv' := [(3, .int x2), (0, .ref (ad 3)), (1, .long v1), (4, .int v4)]) hx hb dX8_allPecks_41 hl (k := 2) rfl (by rw [ex2]; rfl) (by decide) rfl (fun ls hl => ?_)
    refine lv_goto (tgt := 4) hx hb dX8_allPecks_44 (by decide) ?_
    exact hr4 v1 x2 sg h _ _ _ hw (lv_sub hl [1, 2, 0] rfl)
  · replace h := ite_f h c1
    refine lv_lload_n hx hb dX8_allPecks_24 rfl (lv_at hl 1 rfl) ?_
    refine lv_aload_n hx hb dX8_allPecks_25 rfl (lv_at hl 0 rfl) ?_
    refine lv_iload_n hx hb dX8_allPecks_26 rfl (lv_at hl 2 rfl) ?_
    refine lv_iload hx hb dX8_allPecks_27 (lv_at hl 3 rfl) ?_
    obtain ⟨y3, sg4, hq5, h2⟩ := bnd2_some h
    replace h := h2
    clear h2
    refine r_cVi (As := [.int v3, .int v4]) (rest := [.long v1]) C hw 3 (by decide) (ci := 8) rfl rfl (mX8_peckOf l D T ad lg H.size v3 v4 sg hq5) (cwV 2 hts gX8_allPecks_X8_peckOf rfl rfl rfl (by decide +kernel) ⟨Nat.le_of_ble_eq_true rfl, Nat.le_of_ble_eq_true rfl⟩) rfl hl.1 rfl (Nat.le_of_ble_eq_true rfl) dX8_allPecks_29 ⟨Nat.le_of_ble_eq_true rfl, Nat.le_of_ble_eq_true rfl⟩ (fun ad' H locs hp hw => ?_)
    subst hp
    refine W.widen (k := 0) (n := 0) (by decide) (by decide) ?_
    refine lv_i2l (v := y3.toInt64) hx hb dX8_allPecks_32 rfl ?_
    refine lv_ladd hx hb dX8_allPecks_33 ?_
    refine lv_topl (fun x6 ex6 => ?_)
    replace h := lt_get h x6 ex6
    refine lv_lstore_n (lv' := [(1, .long x6), (0, .ref (ad 3)), (3, .int v3), (4, .int v4)]) hx hb dX8_allPecks_34 rfl hl (by decide) rfl (fun ls hl => ?_)
    obtain ⟨x7, ex7⟩ : ∃ z : Int32, z = (v4 + (1 : Int32)) := ⟨_, rfl⟩
    replace h := lt_get h x7 ex7
    refine lv_iinc (v := x7) (lv' := [(4, .int x7), (1, .long x6), (0, .ref (ad 3)), (3, .int v3)]) hx hb dX8_allPecks_35 hl (k := 3) rfl (by rw [ex7]; rfl) (by decide) rfl (fun ls hl => ?_)
    refine lv_goto (tgt := 15) hx hb dX8_allPecks_38 (by decide) ?_
    exact hr15 x6 v3 x7 sg4 h _ _ _ hw (lv_sub hl [2, 1, 3, 0] rfl)
def LX8_allPecks_15 (r4 : (Int64 × Int32 × Sg) → Option (Int64 × Sg)) : (Int64 × Int32 × Int32 × Sg) → Option (Int64 × Sg) := loop (fun rec z => fX8_allPecks_15 r4 rec z.1 z.2.1 z.2.2.1 z.2.2.2)
theorem TX8_allPecks_15 (C : Cx p s m args meth c cX8_allPecks 5 RX8 wsX8_allPecks (some .long) D vwCl (tysC T) A true nwL) {ro : Int64} {so : Sg} {r4 : (Int64 × Int32 × Sg) → Option (Int64 × Sg)} (hr4 : ∀ (v1 : Int64) (v3 : Int32) (sg : Sg), r4 (v1, v3, sg) = some (ro, so) → ∀ (H : Heap) (locs : List Loc) (ls : Array Slot), WS ZC D vwCl T ad sg lg A s.heap H locs → lv_has ls 5 [(0, .ref (ad 3)), (1, .long v1), (3, .int v3)] → W p l e rmX8_allPecks s m args below meth c H locs 0 0 (MQ below (QL ZC D vwCl T (tysC T) A (fun z => ad = z) ro so lg) args s 0 0 A) (F0 m 4 ls [])) : ∀ (v1 : Int64) (v3 : Int32) (v4 : Int32) (sg : Sg), LX8_allPecks_15 r4 (v1, v3, v4, sg) = some (ro, so) → ∀ (H : Heap) (locs : List Loc) (ls : Array Slot), WS ZC D vwCl T ad sg lg A s.heap H locs → lv_has ls 5 [(0, .ref (ad 3)), (1, .long v1), (3, .int v3), (4, .int v4)] → W p l e rmX8_allPecks s m args below meth c H locs 0 0 (MQ below (QL ZC D vwCl T (tysC T) A (fun z => ad = z) ro so lg) args s 0 0 A) (F0 m 15 ls []) := by
  have key : ∀ z : (Int64 × Int32 × Int32 × Sg), LX8_allPecks_15 r4 z = some (ro, so) → ∀ (H : Heap) (locs : List Loc) (ls : Array Slot), WS ZC D vwCl T ad z.2.2.2 lg A s.heap H locs → lv_has ls 5 [(0, .ref (ad 3)), (1, .long z.1), (3, .int z.2.1), (4, .int z.2.2.1)] → W p l e rmX8_allPecks s m args below meth c H locs 0 0 (MQ below (QL ZC D vwCl T (tysC T) A (fun z => ad = z) ro so lg) args s 0 0 A) (F0 m 15 ls []) := by
    intro z h
    unfold LX8_allPecks_15 at h
    exact loop_ind (fun rec z => fX8_allPecks_15 r4 rec z.1 z.2.1 z.2.2.1 z.2.2.2) (y := (ro, so)) (P := fun z => ∀ (H : Heap) (locs : List Loc) (ls : Array Slot), WS ZC D vwCl T ad z.2.2.2 lg A s.heap H locs → lv_has ls 5 [(0, .ref (ad 3)), (1, .long z.1), (3, .int z.2.1), (4, .int z.2.2.1)] → W p l e rmX8_allPecks s m args below meth c H locs 0 0 (MQ below (QL ZC D vwCl T (tysC T) A (fun z => ad = z) ro so lg) args s 0 0 A) (F0 m 15 ls [])) (fun rec hrec z h H locs ls hw hl => tX8_allPecks_15 C hr4 (fun v1 v3 v4 sg => hrec (v1, v3, v4, sg)) z.1 z.2.1 z.2.2.1 z.2.2.2 H locs ls hw hl h) z h
  exact fun v1 v3 v4 sg => key (v1, v3, v4, sg)
def fX8_allPecks_4 (r4 : (Int64 × Int32 × Sg) → Option (Int64 × Sg)) (v1 : Int64) (v3 : Int32) (sg : Sg) : Option (Int64 × Sg) :=
  (if (sg 3 2) ≤ v3 then some (v1, sg) else LX8_allPecks_15 r4 (v1, v3, (0 : Int32), sg))
set_option maxHeartbeats 4000000 in
set_option maxRecDepth 100000 in
theorem tX8_allPecks_4 (C : Cx p s m args meth c cX8_allPecks 5 RX8 wsX8_allPecks (some .long) D vwCl (tysC T) A true nwL) {ro : Int64} {so : Sg} {r4 : (Int64 × Int32 × Sg) → Option (Int64 × Sg)} (hr4 : ∀ (v1 : Int64) (v3 : Int32) (sg : Sg), r4 (v1, v3, sg) = some (ro, so) → ∀ (H : Heap) (locs : List Loc) (ls : Array Slot), WS ZC D vwCl T ad sg lg A s.heap H locs → lv_has ls 5 [(0, .ref (ad 3)), (1, .long v1), (3, .int v3)] → W p l e rmX8_allPecks s m args below meth c H locs 0 0 (MQ below (QL ZC D vwCl T (tysC T) A (fun z => ad = z) ro so lg) args s 0 0 A) (F0 m 4 ls [])) : ∀ (v1 : Int64) (v3 : Int32) (sg : Sg), ∀ (H : Heap) (locs : List Loc) (ls : Array Slot), WS ZC D vwCl T ad sg lg A s.heap H locs → lv_has ls 5 [(0, .ref (ad 3)), (1, .long v1), (3, .int v3)] → fX8_allPecks_4 r4 v1 v3 sg = some (ro, so) → W p l e rmX8_allPecks s m args below meth c H locs 0 0 (MQ below (QL ZC D vwCl T (tysC T) A (fun z => ad = z) ro so lg) args s 0 0 A) (F0 m 4 ls []) := by
  obtain ⟨⟨hx, hb, hml, hown, hts⟩, hr, hlk, hK, hA, hsp⟩ := id C
  intro v1 v3 sg H locs ls hw hl h
  unfold fX8_allPecks_4 at h
  refine lv_iload_n hx hb dX8_allPecks_4 rfl (lv_at hl 2 rfl) ?_
  refine lv_aload_n hx hb dX8_allPecks_5 rfl (lv_at hl 0 rfl) ?_
  refine r_getI (ci := 8) (C := RX8) (U := TX8) (N := 10) hx hb hts kX8_allPecks_iX8 hown hK hw 3 (by decide) rfl rfl 2 (by decide) rfl (hts _ kX8_allPecks_f44) (fun _ h9 => h9) dX8_allPecks_6 ?_
  refine lv_icmp_ge (tgt := 47) hx hb dX8_allPecks_9 (by decide) (fun c1 => ?_) (fun c1 => ?_)
  · replace h := ite_t h c1
    refine lv_lload_n hx hb dX8_allPecks_47 rfl (lv_at hl 1 rfl) ?_
    cases h
    exact r_lret C hw rfl (by decide) (by decide) dX8_allPecks_48
  · replace h := ite_f h c1
    refine lv_iconst (v := (0 : Int32)) hx hb dX8_allPecks_12 (by decide) ?_
    refine lv_istore (lv' := [(4, .int (0 : Int32)), (0, .ref (ad 3)), (1, .long v1), (3, .int v3)]) hx hb dX8_allPecks_13 hl (by decide) rfl (fun ls hl => ?_)
    exact TX8_allPecks_15 C hr4 v1 v3 (0 : Int32) sg h _ _ _ hw (lv_sub hl [1, 2, 3, 0] rfl)
def LX8_allPecks_4  : (Int64 × Int32 × Sg) → Option (Int64 × Sg) := loop (fun rec z => fX8_allPecks_4 rec z.1 z.2.1 z.2.2)
theorem TX8_allPecks_4 (C : Cx p s m args meth c cX8_allPecks 5 RX8 wsX8_allPecks (some .long) D vwCl (tysC T) A true nwL) {ro : Int64} {so : Sg}   : ∀ (v1 : Int64) (v3 : Int32) (sg : Sg), LX8_allPecks_4 (v1, v3, sg) = some (ro, so) → ∀ (H : Heap) (locs : List Loc) (ls : Array Slot), WS ZC D vwCl T ad sg lg A s.heap H locs → lv_has ls 5 [(0, .ref (ad 3)), (1, .long v1), (3, .int v3)] → W p l e rmX8_allPecks s m args below meth c H locs 0 0 (MQ below (QL ZC D vwCl T (tysC T) A (fun z => ad = z) ro so lg) args s 0 0 A) (F0 m 4 ls []) := by
  have key : ∀ z : (Int64 × Int32 × Sg), LX8_allPecks_4  z = some (ro, so) → ∀ (H : Heap) (locs : List Loc) (ls : Array Slot), WS ZC D vwCl T ad z.2.2 lg A s.heap H locs → lv_has ls 5 [(0, .ref (ad 3)), (1, .long z.1), (3, .int z.2.1)] → W p l e rmX8_allPecks s m args below meth c H locs 0 0 (MQ below (QL ZC D vwCl T (tysC T) A (fun z => ad = z) ro so lg) args s 0 0 A) (F0 m 4 ls []) := by
    intro z h
    unfold LX8_allPecks_4 at h
    exact loop_ind (fun rec z => fX8_allPecks_4 rec z.1 z.2.1 z.2.2) (y := (ro, so)) (P := fun z => ∀ (H : Heap) (locs : List Loc) (ls : Array Slot), WS ZC D vwCl T ad z.2.2 lg A s.heap H locs → lv_has ls 5 [(0, .ref (ad 3)), (1, .long z.1), (3, .int z.2.1)] → W p l e rmX8_allPecks s m args below meth c H locs 0 0 (MQ below (QL ZC D vwCl T (tysC T) A (fun z => ad = z) ro so lg) args s 0 0 A) (F0 m 4 ls [])) (fun rec hrec z h H locs ls hw hl => tX8_allPecks_4 C  (fun v1 v3 sg => hrec (v1, v3, sg)) z.1 z.2.1 z.2.2 H locs ls hw hl h) z h
  exact fun v1 v3 sg => key (v1, v3, sg)
def fX8_allPecks  (sg : Sg) : Option (Int64 × Sg) :=
  LX8_allPecks_4 ((0 : Int64), (0 : Int32), sg)
set_option maxHeartbeats 4000000 in
set_option maxRecDepth 100000 in
theorem tX8_allPecks_0 (C : Cx p s m args meth c cX8_allPecks 5 RX8 wsX8_allPecks (some .long) D vwCl (tysC T) A true nwL) {ro : Int64} {so : Sg}   : ∀ (sg : Sg), ∀ (H : Heap) (locs : List Loc) (ls : Array Slot), WS ZC D vwCl T ad sg lg A s.heap H locs → lv_has ls 5 [(0, .ref (ad 3))] → fX8_allPecks sg = some (ro, so) → W p l e rmX8_allPecks s m args below meth c H locs 0 0 (MQ below (QL ZC D vwCl T (tysC T) A (fun z => ad = z) ro so lg) args s 0 0 A) (F0 m 0 ls []) := by
  obtain ⟨⟨hx, hb, hml, hown, hts⟩, hr, hlk, hK, hA, hsp⟩ := id C
  intro sg H locs ls hw hl h
  unfold fX8_allPecks at h
  refine lv_lconst (v := (0 : Int64)) hx hb dX8_allPecks_0 (by decide) ?_
  refine lv_lstore_n (lv' := [(1, .long (0 : Int64)), (0, .ref (ad 3))]) hx hb dX8_allPecks_1 rfl hl (by decide) rfl (fun ls hl => ?_)
  refine lv_iconst (v := (0 : Int32)) hx hb dX8_allPecks_2 (by decide) ?_
  refine lv_istore_n (lv' := [(3, .int (0 : Int32)), (1, .long (0 : Int64)), (0, .ref (ad 3))]) hx hb dX8_allPecks_3 rfl hl (by decide) rfl (fun ls hl => ?_)
  exact TX8_allPecks_4 C (0 : Int64) (0 : Int32) sg h _ _ _ hw (lv_sub hl [2, 1, 0] rfl)
theorem mX8_allPecks (l : Launch) (D : va_G) (T : Nat → ClassId) (ad : Nat → Nat) (lg : Lg) (sz : Nat)   (sg : Sg) {ro : Int64} {so : Sg} (h : fX8_allPecks sg = some (ro, so)) : Met l yX8_allPecks wsX8_allPecks rmX8_allPecks (PreZ ZC D vwCl T (tysC T) ad sg lg true nwL [.ref (ad 3)] sz) (QL ZC D vwCl T (tysC T) (va_A (zwd ZC T ad sg lg) sz) (fun z => ad = z) ro so lg) 0 0 (va_A (zwd ZC T ad sg lg) sz) :=
  metZ [.ref (ad 3)] sz (by decide) rfl (Nat.le_of_ble_eq_true rfl) (fun p e s m below meth c ls C hw hl => tX8_allPecks_0 C sg _ _ _ hw hl h)
-- PeckYard$Flock.penCount()I
def rmX2_penCount : Room := { frames := 0, cells := 0, slots := 0, locals := 0 }
theorem kX2_penCount_f27 : Cond.fieldLink RX2 27 "PeckYard$Flock" "size" "I" ∈ wsX2_penCount := by decide +kernel
theorem kX2_penCount_iX2 : ∀ w ∈ u_ws RX2 TX2 7, w ∈ wsX2_penCount := by decide +kernel
theorem kX2_penCount_f21 : Cond.fieldLink RX2 21 "PeckYard$Flock" "width" "[I" ∈ wsX2_penCount := by decide +kernel
def fX2_penCount_25 (r4 : (Int32 × Int32 × Sg) → Option (Int32 × Sg)) (v1 : Int32) (v2 : Int32) (sg : Sg) : Option (Int32 × Sg) :=
  lt (v2 + (1 : Int32)) (fun x1 => r4 (v1, x1, sg))
set_option maxHeartbeats 4000000 in
set_option maxRecDepth 100000 in
theorem tX2_penCount_25 (C : Cx p s m args meth c cX2_penCount 3 RX2 wsX2_penCount (some .int) D vwCl (tysC T) A true nwL) {ro : Int32} {so : Sg} {r4 : (Int32 × Int32 × Sg) → Option (Int32 × Sg)} (hr4 : ∀ (v1 : Int32) (v2 : Int32) (sg : Sg), r4 (v1, v2, sg) = some (ro, so) → ∀ (H : Heap) (locs : List Loc) (ls : Array Slot), WS ZC D vwCl T ad sg lg A s.heap H locs → lv_has ls 3 [(0, .ref (ad 1)), (1, .int v1), (2, .int v2)] → W p l e rmX2_penCount s m args below meth c H locs 0 0 (MQ below (QI ZC D vwCl T (tysC T) A (fun z => ad = z) ro so lg) args s 0 0 A) (F0 m 4 ls [])) : ∀ (v1 : Int32) (v2 : Int32) (sg : Sg), ∀ (H : Heap) (locs : List Loc) (ls : Array Slot), WS ZC D vwCl T ad sg lg A s.heap H locs → lv_has ls 3 [(0, .ref (ad 1)), (1, .int v1), (2, .int v2)] → fX2_penCount_25 r4 v1 v2 sg = some (ro, so) → W p l e rmX2_penCount s m args below meth c H locs 0 0 (MQ below (QI ZC D vwCl T (tysC T) A (fun z => ad = z) ro so lg) args s 0 0 A) (F0 m 25 ls []) := by
  obtain ⟨⟨hx, hb, hml, hown, hts⟩, hr, hlk, hK, hA, hsp⟩ := id C
  intro v1 v2 sg H locs ls hw hl h
  unfold fX2_penCount_25 at h
  obtain ⟨x1, ex1⟩ : ∃ z : Int32, z = (v2 + (1 : Int32)) := ⟨_, rfl⟩
  replace h := lt_get h x1 ex1
  refine lv_iinc (v := x1) (lv' := [(2, .int x1), (0, .ref (ad 1)), (1, .int v1)]) hx hb dX2_penCount_25 hl (k := 2) rfl (by rw [ex1]; rfl) (by decide) rfl (fun ls hl => ?_)
  refine lv_goto (tgt := 4) hx hb dX2_penCount_28 (by decide) ?_
  exact hr4 v1 x1 sg h _ _ _ hw (lv_sub hl [1, 2, 0] rfl)
def fX2_penCount_4 (r4 : (Int32 × Int32 × Sg) → Option (Int32 × Sg)) (v1 : Int32) (v2 : Int32) (sg : Sg) : Option (Int32 × Sg) :=
  (if (sg 1 0) ≤ v2 then some (v1, sg) else gin v2 12 ((if (sg 14 v2.toNatClampNeg) = (-1 : Int32) then fX2_penCount_25 r4 v1 v2 sg else lt (v1 + (1 : Int32)) (fun x4 => fX2_penCount_25 r4 x4 v2 sg))))
set_option maxHeartbeats 4000000 in
set_option maxRecDepth 100000 in
theorem tX2_penCount_4 (C : Cx p s m args meth c cX2_penCount 3 RX2 wsX2_penCount (some .int) D vwCl (tysC T) A true nwL) {ro : Int32} {so : Sg} {r4 : (Int32 × Int32 × Sg) → Option (Int32 × Sg)} (hr4 : ∀ (v1 : Int32) (v2 : Int32) (sg : Sg), r4 (v1, v2, sg) = some (ro, so) → ∀ (H : Heap) (locs : List Loc) (ls : Array Slot), WS ZC D vwCl T ad sg lg A s.heap H locs → lv_has ls 3 [(0, .ref (ad 1)), (1, .int v1), (2, .int v2)] → W p l e rmX2_penCount s m args below meth c H locs 0 0 (MQ below (QI ZC D vwCl T (tysC T) A (fun z => ad = z) ro so lg) args s 0 0 A) (F0 m 4 ls [])) : ∀ (v1 : Int32) (v2 : Int32) (sg : Sg), ∀ (H : Heap) (locs : List Loc) (ls : Array Slot), WS ZC D vwCl T ad sg lg A s.heap H locs → lv_has ls 3 [(0, .ref (ad 1)), (1, .int v1), (2, .int v2)] → fX2_penCount_4 r4 v1 v2 sg = some (ro, so) → W p l e rmX2_penCount s m args below meth c H locs 0 0 (MQ below (QI ZC D vwCl T (tysC T) A (fun z => ad = z) ro so lg) args s 0 0 A) (F0 m 4 ls []) := by
  obtain ⟨⟨hx, hb, hml, hown, hts⟩, hr, hlk, hK, hA, hsp⟩ := id C
  intro v1 v2 sg H locs ls hw hl h
  unfold fX2_penCount_4 at h
  refine lv_iload_n hx hb dX2_penCount_4 rfl (lv_at hl 2 rfl) ?_
  refine lv_aload_n hx hb dX2_penCount_5 rfl (lv_at hl 0 rfl) ?_
  refine r_getI (ci := 2) (C := RX2) (U := TX2) (N := 7) hx hb hts kX2_penCount_iX2 hown hK hw 1 (by decide) rfl rfl 0 (by decide) rfl (hts _ kX2_penCount_f27) (fun _ h9 => h9) dX2_penCount_6 ?_
  refine lv_icmp_ge (tgt := 31) hx hb dX2_penCount_9 (by decide) (fun c1 => ?_) (fun c1 => ?_)
  · replace h := ite_t h c1
    refine lv_iload_n hx hb dX2_penCount_31 rfl (lv_at hl 1 rfl) ?_
    cases h
    exact r_iret C hw rfl (by decide) (by decide) dX2_penCount_32
  · replace h := ite_f h c1
    refine lv_aload_n hx hb dX2_penCount_12 rfl (lv_at hl 0 rfl) ?_
    refine r_getR (ci := 2) (C := RX2) (U := TX2) (N := 7) hx hb hts kX2_penCount_iX2 hown hK hw 1 (by decide) rfl rfl 5 (by decide) 14 rfl (hts _ kX2_penCount_f21) (fun _ h9 => h9) dX2_penCount_13 ?_
    refine lv_iload_n hx hb dX2_penCount_16 rfl (lv_at hl 2 rfl) ?_
    have hi2 := (gin_some h).1
    replace h := (gin_some h).2
    refine r_iald hx hb hK hw 14 0 12 (by decide) rfl rfl rfl hi2 dX2_penCount_17 ?_
    refine lv_iconst (v := (-1 : Int32)) hx hb dX2_penCount_18 (by decide) ?_
    refine lv_icmp_eq (tgt := 25) hx hb dX2_penCount_19 (by decide) (fun c3 => ?_) (fun c3 => ?_)
    · replace h := ite_t h c3
      exact tX2_penCount_25 C hr4 v1 v2 sg _ _ _ hw (lv_sub hl [0, 1, 2] rfl) h
    · replace h := ite_f h c3
      obtain ⟨x4, ex4⟩ : ∃ z : Int32, z = (v1 + (1 : Int32)) := ⟨_, rfl⟩
      replace h := lt_get h x4 ex4
      refine lv_iinc (v := x4) (lv' := [(1, .int x4), (0, .ref (ad 1)), (2, .int v2)]) hx hb dX2_penCount_22 hl (k := 1) rfl (by rw [ex4]; rfl) (by decide) rfl (fun ls hl => ?_)
      exact tX2_penCount_25 C hr4 x4 v2 sg _ _ _ hw (lv_sub hl [1, 0, 2] rfl) h
def LX2_penCount_4  : (Int32 × Int32 × Sg) → Option (Int32 × Sg) := loop (fun rec z => fX2_penCount_4 rec z.1 z.2.1 z.2.2)
theorem TX2_penCount_4 (C : Cx p s m args meth c cX2_penCount 3 RX2 wsX2_penCount (some .int) D vwCl (tysC T) A true nwL) {ro : Int32} {so : Sg}   : ∀ (v1 : Int32) (v2 : Int32) (sg : Sg), LX2_penCount_4 (v1, v2, sg) = some (ro, so) → ∀ (H : Heap) (locs : List Loc) (ls : Array Slot), WS ZC D vwCl T ad sg lg A s.heap H locs → lv_has ls 3 [(0, .ref (ad 1)), (1, .int v1), (2, .int v2)] → W p l e rmX2_penCount s m args below meth c H locs 0 0 (MQ below (QI ZC D vwCl T (tysC T) A (fun z => ad = z) ro so lg) args s 0 0 A) (F0 m 4 ls []) := by
  have key : ∀ z : (Int32 × Int32 × Sg), LX2_penCount_4  z = some (ro, so) → ∀ (H : Heap) (locs : List Loc) (ls : Array Slot), WS ZC D vwCl T ad z.2.2 lg A s.heap H locs → lv_has ls 3 [(0, .ref (ad 1)), (1, .int z.1), (2, .int z.2.1)] → W p l e rmX2_penCount s m args below meth c H locs 0 0 (MQ below (QI ZC D vwCl T (tysC T) A (fun z => ad = z) ro so lg) args s 0 0 A) (F0 m 4 ls []) := by
    intro z h
    unfold LX2_penCount_4 at h
    exact loop_ind (fun rec z => fX2_penCount_4 rec z.1 z.2.1 z.2.2) (y := (ro, so)) (P := fun z => ∀ (H : Heap) (locs : List Loc) (ls : Array Slot), WS ZC D vwCl T ad z.2.2 lg A s.heap H locs → lv_has ls 3 [(0, .ref (ad 1)), (1, .int z.1), (2, .int z.2.1)] → W p l e rmX2_penCount s m args below meth c H locs 0 0 (MQ below (QI ZC D vwCl T (tysC T) A (fun z => ad = z) ro so lg) args s 0 0 A) (F0 m 4 ls [])) (fun rec hrec z h H locs ls hw hl => tX2_penCount_4 C  (fun v1 v2 sg => hrec (v1, v2, sg)) z.1 z.2.1 z.2.2 H locs ls hw hl h) z h
  exact fun v1 v2 sg => key (v1, v2, sg)
def fX2_penCount  (sg : Sg) : Option (Int32 × Sg) :=
  LX2_penCount_4 ((0 : Int32), (0 : Int32), sg)
set_option maxHeartbeats 4000000 in
set_option maxRecDepth 100000 in
theorem tX2_penCount_0 (C : Cx p s m args meth c cX2_penCount 3 RX2 wsX2_penCount (some .int) D vwCl (tysC T) A true nwL) {ro : Int32} {so : Sg}   : ∀ (sg : Sg), ∀ (H : Heap) (locs : List Loc) (ls : Array Slot), WS ZC D vwCl T ad sg lg A s.heap H locs → lv_has ls 3 [(0, .ref (ad 1))] → fX2_penCount sg = some (ro, so) → W p l e rmX2_penCount s m args below meth c H locs 0 0 (MQ below (QI ZC D vwCl T (tysC T) A (fun z => ad = z) ro so lg) args s 0 0 A) (F0 m 0 ls []) := by
  obtain ⟨⟨hx, hb, hml, hown, hts⟩, hr, hlk, hK, hA, hsp⟩ := id C
  intro sg H locs ls hw hl h
  unfold fX2_penCount at h
  refine lv_iconst (v := (0 : Int32)) hx hb dX2_penCount_0 (by decide) ?_
  refine lv_istore_n (lv' := [(1, .int (0 : Int32)), (0, .ref (ad 1))]) hx hb dX2_penCount_1 rfl hl (by decide) rfl (fun ls hl => ?_)
  refine lv_iconst (v := (0 : Int32)) hx hb dX2_penCount_2 (by decide) ?_
  refine lv_istore_n (lv' := [(2, .int (0 : Int32)), (1, .int (0 : Int32)), (0, .ref (ad 1))]) hx hb dX2_penCount_3 rfl hl (by decide) rfl (fun ls hl => ?_)
  exact TX2_penCount_4 C (0 : Int32) (0 : Int32) sg h _ _ _ hw (lv_sub hl [2, 1, 0] rfl)
theorem mX2_penCount (l : Launch) (D : va_G) (T : Nat → ClassId) (ad : Nat → Nat) (lg : Lg) (sz : Nat)   (sg : Sg) {ro : Int32} {so : Sg} (h : fX2_penCount sg = some (ro, so)) : Met l yX2_penCount wsX2_penCount rmX2_penCount (PreZ ZC D vwCl T (tysC T) ad sg lg true nwL [.ref (ad 1)] sz) (QI ZC D vwCl T (tysC T) (va_A (zwd ZC T ad sg lg) sz) (fun z => ad = z) ro so lg) 0 0 (va_A (zwd ZC T ad sg lg) sz) :=
  metZ [.ref (ad 1)] sz (by decide) rfl (Nat.le_of_ble_eq_true rfl) (fun p e s m below meth c ls C hw hl => tX2_penCount_0 C sg _ _ _ hw hl h)
-- PeckYard.count(I)J
def rmX11_count : Room := { frames := 3, cells := 0, slots := 0, locals := 64 }
theorem kX11_count_f10 : Cond.fieldLink RX11 10 "PeckYard" "flock" "LPeckYard$Flock;" ∈ wsX11_count := by decide +kernel
theorem kX11_count_iX11 : ∀ w ∈ u_ws RX11 TX11 9, w ∈ wsX11_count := by decide +kernel
theorem kX11_count_f80 : Cond.fieldLink RX11 80 "PeckYard$Flock" "size" "I" ∈ wsX11_count := by decide +kernel
theorem kX11_count_iX2 : ∀ w ∈ u_ws RX2 TX2 7, w ∈ wsX11_count := by decide +kernel
theorem kX11_count_f28 : Cond.fieldLink RX11 28 "PeckYard" "muster" "LPeckYard$Muster;" ∈ wsX11_count := by decide +kernel
theorem kX11_count_f246 : Cond.fieldLink RX11 246 "PeckYard$Muster" "size" "I" ∈ wsX11_count := by decide +kernel
theorem kX11_count_iX8 : ∀ w ∈ u_ws RX8 TX8 10, w ∈ wsX11_count := by decide +kernel
theorem kX11_count_f44 : Cond.fieldLink RX11 44 "PeckYard" "hand" "LPeckYard$Hand;" ∈ wsX11_count := by decide +kernel
theorem kX11_count_f166 : Cond.fieldLink RX11 166 "PeckYard$Hand" "size" "I" ∈ wsX11_count := by decide +kernel
theorem kX11_count_iX5 : ∀ w ∈ u_ws RX5 TX5 2, w ∈ wsX11_count := by decide +kernel
theorem kX11_count_f19 : Cond.fieldLink RX11 19 "PeckYard" "changes" "LPeckYard$Changes;" ∈ wsX11_count := by decide +kernel
theorem kX11_count_f142 : Cond.fieldLink RX11 142 "PeckYard$Changes" "kept" "I" ∈ wsX11_count := by decide +kernel
theorem kX11_count_iX1 : ∀ w ∈ u_ws RX1 TX1 3, w ∈ wsX11_count := by decide +kernel
theorem kX11_count_f65 : Cond.fieldLink RX11 65 "PeckYard" "rings" "LPeckYard$Rings;" ∈ wsX11_count := by decide +kernel
theorem kX11_count_f238 : Cond.fieldLink RX11 238 "PeckYard$Rings" "size" "I" ∈ wsX11_count := by decide +kernel
theorem kX11_count_iX10 : ∀ w ∈ u_ws RX10 TX10 10, w ∈ wsX11_count := by decide +kernel
theorem kX11_count_c88 : Cond.constantLong RX11 88 (-2000000001) ∈ wsX11_count := by decide +kernel
def fX11_count  (v1 : Int32) (sg : Sg) : Option (Int64 × Sg) :=
  (if v1 = (0 : Int32) then some ((sg 1 0).toInt64, sg) else (if v1 = (1 : Int32) then bnd1 (fX8_gather sg) (fun sg3 => some ((sg3 3 2).toInt64, sg3)) else (if v1 = (2 : Int32) then some ((sg 5 0).toInt64, sg) else (if v1 = (3 : Int32) then some ((sg 2 0).toInt64, sg) else (if v1 = (4 : Int32) then some ((sg 8 1).toInt64, sg) else (if v1 = (5 : Int32) then bnd1 (fX8_gather sg) (fun sg9 => bnd2 (fX8_allPecks sg9) (fun y11 sg12 => some (y11, sg12))) else (if v1 = (6 : Int32) then bnd2 (fX2_penCount sg) (fun y15 sg16 => some (y15.toInt64, sg16)) else some ((-2000000001 : Int64), sg))))))))
set_option maxHeartbeats 4000000 in
set_option maxRecDepth 100000 in
theorem tX11_count_0 (C : Cx p s m args meth c cX11_count 2 RX11 wsX11_count (some .long) D vwCl (tysC T) A true nwL) {ro : Int64} {so : Sg}   : ∀ (v1 : Int32) (sg : Sg), ∀ (H : Heap) (locs : List Loc) (ls : Array Slot), WS ZC D vwCl T ad sg lg A s.heap H locs → lv_has ls 2 [(0, .ref (ad 0)), (1, .int v1)] → fX11_count v1 sg = some (ro, so) → W p l e rmX11_count s m args below meth c H locs 0 0 (MQ below (QL ZC D vwCl T (tysC T) A (fun z => ad = z) ro so lg) args s 0 0 A) (F0 m 0 ls []) := by
  obtain ⟨⟨hx, hb, hml, hown, hts⟩, hr, hlk, hK, hA, hsp⟩ := id C
  intro v1 sg H locs ls hw hl h
  unfold fX11_count at h
  refine lv_iload_n hx hb dX11_count_0 rfl (lv_at hl 1 rfl) ?_
  by_cases c1 : v1 = (0 : Int32)
  · replace h := ite_t h c1
    refine lv_tableIn (tgt := 44) (off := 43) hx hb dX11_count_1 (by rw [c1]; decide) (by rw [c1]; decide) (by rw [c1]; rfl) (by decide) ?_
    refine lv_aload_n hx hb dX11_count_44 rfl (lv_at hl 0 rfl) ?_
    refine r_getR (ci := 11) (C := RX11) (U := TX11) (N := 9) hx hb hts kX11_count_iX11 hown hK hw 0 (by decide) rfl rfl 0 (by decide) 1 rfl (hts _ kX11_count_f10) (fun _ h9 => h9) dX11_count_45 ?_
    refine r_getI (ci := 2) (C := RX2) (U := TX2) (N := 7) hx hb hts kX11_count_iX2 hown hK hw 1 (by decide) rfl rfl 0 (by decide) rfl (hts _ kX11_count_f80) (fun _ h9 => h9) dX11_count_48 ?_
    refine lv_i2l (v := (sg 1 0).toInt64) hx hb dX11_count_51 rfl ?_
    cases h
    exact r_lret C hw rfl (by decide) (by decide) dX11_count_52
  replace h := ite_f h c1
  by_cases c2 : v1 = (1 : Int32)
  · replace h := ite_t h c2
    refine lv_tableIn (tgt := 53) (off := 52) hx hb dX11_count_1 (by rw [c2]; decide) (by rw [c2]; decide) (by rw [c2]; rfl) (by decide) ?_
    refine lv_aload_n hx hb dX11_count_53 rfl (lv_at hl 0 rfl) ?_
    refine r_getR (ci := 11) (C := RX11) (U := TX11) (N := 9) hx hb hts kX11_count_iX11 hown hK hw 0 (by decide) rfl rfl 2 (by decide) 3 rfl (hts _ kX11_count_f28) (fun _ h9 => h9) dX11_count_54 ?_
    obtain ⟨sg3, hq4, h2⟩ := bnd1_some h
    replace h := h2
    clear h2
    refine r_cVv (As := []) (rest := []) C hw 3 (by decide) (ci := 8) rfl rfl (mX8_gather l D T ad lg H.size sg hq4) (cwV 0 hts gX11_count_X8_gather rfl rfl rfl (by decide +kernel) ⟨Nat.le_of_ble_eq_true rfl, Nat.le_of_ble_eq_true rfl⟩) rfl hl.1 rfl (Nat.le_of_ble_eq_true rfl) dX11_count_57 ⟨Nat.le_of_ble_eq_true rfl, Nat.le_of_ble_eq_true rfl⟩ (fun ad' H locs hp hw => ?_)
    subst hp
    refine W.widen (k := 0) (n := 0) (by decide) (by decide) ?_
    refine lv_aload_n hx hb dX11_count_60 rfl (lv_at hl 0 rfl) ?_
    refine r_getR (ci := 11) (C := RX11) (U := TX11) (N := 9) hx hb hts kX11_count_iX11 hown hK hw 0 (by decide) rfl rfl 2 (by decide) 3 rfl (hts _ kX11_count_f28) (fun _ h9 => h9) dX11_count_61 ?_
    refine r_getI (ci := 8) (C := RX8) (U := TX8) (N := 10) hx hb hts kX11_count_iX8 hown hK hw 3 (by decide) rfl rfl 2 (by decide) rfl (hts _ kX11_count_f246) (fun _ h9 => h9) dX11_count_64 ?_
    refine lv_i2l (v := (sg3 3 2).toInt64) hx hb dX11_count_67 rfl ?_
    cases h
    exact r_lret C hw rfl (by decide) (by decide) dX11_count_68
  replace h := ite_f h c2
  by_cases c5 : v1 = (2 : Int32)
  · replace h := ite_t h c5
    refine lv_tableIn (tgt := 69) (off := 68) hx hb dX11_count_1 (by rw [c5]; decide) (by rw [c5]; decide) (by rw [c5]; rfl) (by decide) ?_
    refine lv_aload_n hx hb dX11_count_69 rfl (lv_at hl 0 rfl) ?_
    refine r_getR (ci := 11) (C := RX11) (U := TX11) (N := 9) hx hb hts kX11_count_iX11 hown hK hw 0 (by decide) rfl rfl 4 (by decide) 5 rfl (hts _ kX11_count_f44) (fun _ h9 => h9) dX11_count_70 ?_
    refine r_getI (ci := 5) (C := RX5) (U := TX5) (N := 2) hx hb hts kX11_count_iX5 hown hK hw 5 (by decide) rfl rfl 0 (by decide) rfl (hts _ kX11_count_f166) (fun _ h9 => h9) dX11_count_73 ?_
    refine lv_i2l (v := (sg 5 0).toInt64) hx hb dX11_count_76 rfl ?_
    cases h
    exact r_lret C hw rfl (by decide) (by decide) dX11_count_77
  replace h := ite_f h c5
  by_cases c6 : v1 = (3 : Int32)
  · replace h := ite_t h c6
    refine lv_tableIn (tgt := 78) (off := 77) hx hb dX11_count_1 (by rw [c6]; decide) (by rw [c6]; decide) (by rw [c6]; rfl) (by decide) ?_
    refine lv_aload_n hx hb dX11_count_78 rfl (lv_at hl 0 rfl) ?_
    refine r_getR (ci := 11) (C := RX11) (U := TX11) (N := 9) hx hb hts kX11_count_iX11 hown hK hw 0 (by decide) rfl rfl 1 (by decide) 2 rfl (hts _ kX11_count_f19) (fun _ h9 => h9) dX11_count_79 ?_
    refine r_getI (ci := 1) (C := RX1) (U := TX1) (N := 3) hx hb hts kX11_count_iX1 hown hK hw 2 (by decide) rfl rfl 0 (by decide) rfl (hts _ kX11_count_f142) (fun _ h9 => h9) dX11_count_82 ?_
    refine lv_i2l (v := (sg 2 0).toInt64) hx hb dX11_count_85 rfl ?_
    cases h
    exact r_lret C hw rfl (by decide) (by decide) dX11_count_86
  replace h := ite_f h c6
  by_cases c7 : v1 = (4 : Int32)
  · replace h := ite_t h c7
    refine lv_tableIn (tgt := 87) (off := 86) hx hb dX11_count_1 (by rw [c7]; decide) (by rw [c7]; decide) (by rw [c7]; rfl) (by decide) ?_
    refine lv_aload_n hx hb dX11_count_87 rfl (lv_at hl 0 rfl) ?_
    refine r_getR (ci := 11) (C := RX11) (U := TX11) (N := 9) hx hb hts kX11_count_iX11 hown hK hw 0 (by decide) rfl rfl 7 (by decide) 8 rfl (hts _ kX11_count_f65) (fun _ h9 => h9) dX11_count_88 ?_
    refine r_getI (ci := 10) (C := RX10) (U := TX10) (N := 10) hx hb hts kX11_count_iX10 hown hK hw 8 (by decide) rfl rfl 1 (by decide) rfl (hts _ kX11_count_f238) (fun _ h9 => h9) dX11_count_91 ?_
    refine lv_i2l (v := (sg 8 1).toInt64) hx hb dX11_count_94 rfl ?_
    cases h
    exact r_lret C hw rfl (by decide) (by decide) dX11_count_95
  replace h := ite_f h c7
  by_cases c8 : v1 = (5 : Int32)
  · replace h := ite_t h c8
    refine lv_tableIn (tgt := 96) (off := 95) hx hb dX11_count_1 (by rw [c8]; decide) (by rw [c8]; decide) (by rw [c8]; rfl) (by decide) ?_
    refine lv_aload_n hx hb dX11_count_96 rfl (lv_at hl 0 rfl) ?_
    refine r_getR (ci := 11) (C := RX11) (U := TX11) (N := 9) hx hb hts kX11_count_iX11 hown hK hw 0 (by decide) rfl rfl 2 (by decide) 3 rfl (hts _ kX11_count_f28) (fun _ h9 => h9) dX11_count_97 ?_
    obtain ⟨sg9, hq10, h2⟩ := bnd1_some h
    replace h := h2
    clear h2
    refine r_cVv (As := []) (rest := []) C hw 3 (by decide) (ci := 8) rfl rfl (mX8_gather l D T ad lg H.size sg hq10) (cwV 0 hts gX11_count_X8_gather rfl rfl rfl (by decide +kernel) ⟨Nat.le_of_ble_eq_true rfl, Nat.le_of_ble_eq_true rfl⟩) rfl hl.1 rfl (Nat.le_of_ble_eq_true rfl) dX11_count_100 ⟨Nat.le_of_ble_eq_true rfl, Nat.le_of_ble_eq_true rfl⟩ (fun ad' H locs hp hw => ?_)
    subst hp
    refine W.widen (k := 0) (n := 0) (by decide) (by decide) ?_
    refine lv_aload_n hx hb dX11_count_103 rfl (lv_at hl 0 rfl) ?_
    refine r_getR (ci := 11) (C := RX11) (U := TX11) (N := 9) hx hb hts kX11_count_iX11 hown hK hw 0 (by decide) rfl rfl 2 (by decide) 3 rfl (hts _ kX11_count_f28) (fun _ h9 => h9) dX11_count_104 ?_
    obtain ⟨y11, sg12, hq13, h2⟩ := bnd2_some h
    replace h := h2
    clear h2
    refine r_cVl (As := []) (rest := []) C hw 3 (by decide) (ci := 8) rfl rfl (mX8_allPecks l D T ad lg H.size sg9 hq13) (cwV 0 hts gX11_count_X8_allPecks rfl rfl rfl (by decide +kernel) ⟨Nat.le_of_ble_eq_true rfl, Nat.le_of_ble_eq_true rfl⟩) rfl hl.1 rfl (Nat.le_of_ble_eq_true rfl) dX11_count_107 ⟨Nat.le_of_ble_eq_true rfl, Nat.le_of_ble_eq_true rfl⟩ (fun ad' H locs hp hw => ?_)
    subst hp
    refine W.widen (k := 0) (n := 0) (by decide) (by decide) ?_
    cases h
    exact r_lret C hw rfl (by decide) (by decide) dX11_count_110
  replace h := ite_f h c8
  by_cases c14 : v1 = (6 : Int32)
  · replace h := ite_t h c14
    refine lv_tableIn (tgt := 111) (off := 110) hx hb dX11_count_1 (by rw [c14]; decide) (by rw [c14]; decide) (by rw [c14]; rfl) (by decide) ?_
    refine lv_aload_n hx hb dX11_count_111 rfl (lv_at hl 0 rfl) ?_
    refine r_getR (ci := 11) (C := RX11) (U := TX11) (N := 9) hx hb hts kX11_count_iX11 hown hK hw 0 (by decide) rfl rfl 0 (by decide) 1 rfl (hts _ kX11_count_f10) (fun _ h9 => h9) dX11_count_112 ?_
    obtain ⟨y15, sg16, hq17, h2⟩ := bnd2_some h
    replace h := h2
    clear h2
    refine r_cVi (As := []) (rest := []) C hw 1 (by decide) (ci := 2) rfl rfl (mX2_penCount l D T ad lg H.size sg hq17) (cwV 0 hts gX11_count_X2_penCount rfl rfl rfl (by decide +kernel) ⟨Nat.le_of_ble_eq_true rfl, Nat.le_of_ble_eq_true rfl⟩) rfl hl.1 rfl (Nat.le_of_ble_eq_true rfl) dX11_count_115 ⟨Nat.le_of_ble_eq_true rfl, Nat.le_of_ble_eq_true rfl⟩ (fun ad' H locs hp hw => ?_)
    subst hp
    refine W.widen (k := 0) (n := 0) (by decide) (by decide) ?_
    refine lv_i2l (v := y15.toInt64) hx hb dX11_count_118 rfl ?_
    cases h
    exact r_lret C hw rfl (by decide) (by decide) dX11_count_119
  replace h := ite_f h c14
  refine lv_tableOut (tgt := 120) hx hb dX11_count_1 (by have q0 := lv_neT c1 (a := 0) (by decide); have q1 := lv_neT c2 (a := 1) (by decide); have q2 := lv_neT c5 (a := 2) (by decide); have q3 := lv_neT c6 (a := 3) (by decide); have q4 := lv_neT c7 (a := 4) (by decide); have q5 := lv_neT c8 (a := 5) (by decide); have q6 := lv_neT c14 (a := 6) (by decide); omega) (by decide) ?_
  refine lv_ldc2 hx hb hown (hts _ kX11_count_c88) dX11_count_120 ?_
  cases h
  exact r_lret C hw rfl (by decide) (by decide) dX11_count_123
theorem mX11_count (l : Launch) (D : va_G) (T : Nat → ClassId) (ad : Nat → Nat) (lg : Lg) (sz : Nat)   (v1 : Int32) (sg : Sg) {ro : Int64} {so : Sg} (h : fX11_count v1 sg = some (ro, so)) : Met l yX11_count wsX11_count rmX11_count (PreZ ZC D vwCl T (tysC T) ad sg lg true nwL [.ref (ad 0), .int v1] sz) (QL ZC D vwCl T (tysC T) (va_A (zwd ZC T ad sg lg) sz) (fun z => ad = z) ro so lg) 0 0 (va_A (zwd ZC T ad sg lg) sz) :=
  metZ [.ref (ad 0), .int v1] sz (by decide) rfl (Nat.le_of_ble_eq_true rfl) (fun p e s m below meth c ls C hw hl => tX11_count_0 C v1 sg _ _ _ hw hl h)
end ZC
