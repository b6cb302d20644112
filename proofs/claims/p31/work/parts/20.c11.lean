section ZC
variable {p : Program} {l : Launch} {e : Env} {s : State} {m : MethodId} {args : Array Value} {below : List Frame} {meth : Method} {c : Code} {D : va_G} {T : Nat → ClassId} {A : Nat → Prop} {ad a : Nat → Nat} {lg : Lg}
-- PeckYard.move(II)J
def rmX11_move : Room := { frames := 1, cells := 0, slots := 0, locals := 24 }
theorem kX11_move_f44 : Cond.fieldLink RX11 44 "PeckYard" "hand" "LPeckYard$Hand;" ∈ wsX11_move := by decide +kernel
theorem kX11_move_iX11 : ∀ w ∈ u_ws RX11 TX11 9, w ∈ wsX11_move := by decide +kernel
theorem kX11_move_c88 : Cond.constantLong RX11 88 (-2000000001) ∈ wsX11_move := by decide +kernel
theorem kX11_move_f202 : Cond.fieldLink RX11 202 "PeckYard$Hand" "hens" "[I" ∈ wsX11_move := by decide +kernel
theorem kX11_move_iX5 : ∀ w ∈ u_ws RX5 TX5 2, w ∈ wsX11_move := by decide +kernel
def fX11_move  (v1 : Int32) (v2 : Int32) (sg : Sg) : Option (Int64 × Sg) :=
  bnd2 (fX5_isPlace v1 sg) (fun y1 sg2 => (if y1 = 0 then some ((-2000000001 : Int64), sg2) else bnd2 (fX5_isPlace v2 sg2) (fun y5 sg6 => (if y5 = 0 then some ((-2000000001 : Int64), sg6) else bnd1 (fX11_shift_c31 v1 v2 sg6) (fun sg9 => some ((0 : Int64), sg9))))))
set_option maxHeartbeats 4000000 in
set_option maxRecDepth 100000 in
theorem tX11_move_0 (C : Cx p s m args meth c cX11_move 3 RX11 wsX11_move (some .long) D vwCl (tysC T) A true nwL) {ro : Int64} {so : Sg}   : ∀ (v1 : Int32) (v2 : Int32) (sg : Sg), ∀ (H : Heap) (locs : List Loc) (ls : Array Slot), WS ZC D vwCl T ad sg lg A s.heap H locs → lv_has ls 3 [(0, .ref (ad 0)), (1, .int v1), (2, .int v2)] → fX11_move v1 v2 sg = some (ro, so) → W p l e rmX11_move s m args below meth c H locs 0 0 (MQ below (QL ZC D vwCl T (tysC T) A (fun z => ad = z) ro so lg) args s 0 0 A) (F0 m 0 ls []) := by
  obtain ⟨⟨hx, hb, hml, hown, hts⟩, hr, hlk, hK, hA, hsp⟩ := id C
  intro v1 v2 sg H locs ls hw hl h
  unfold fX11_move at h
  refine lv_aload_n hx hb dX11_move_0 rfl (lv_at hl 0 rfl) ?_
  refine r_getR (ci := 11) (C := RX11) (U := TX11) (N := 9) hx hb hts kX11_move_iX11 hown hK hw 0 (by decide) rfl rfl 4 (by decide) 5 rfl (hts _ kX11_move_f44) (fun _ h9 => h9) dX11_move_1 ?_
  refine lv_iload_n hx hb dX11_move_4 rfl (lv_at hl 1 rfl) ?_
  obtain ⟨y1, sg2, hq3, h2⟩ := bnd2_some h
  replace h := h2
  clear h2
  refine r_cVi (As := [.int v1]) (rest := []) C hw 5 (by decide) (ci := 5) rfl rfl (mX5_isPlace l D T ad lg H.size v1 sg hq3) (cwV 1 hts gX11_move_X5_isPlace rfl rfl rfl (by decide +kernel) ⟨Nat.le_of_ble_eq_true rfl, Nat.le_of_ble_eq_true rfl⟩) rfl hl.1 rfl (Nat.le_of_ble_eq_true rfl) dX11_move_5 ⟨Nat.le_of_ble_eq_true rfl, Nat.le_of_ble_eq_true rfl⟩ (fun ad' H locs hp hw => ?_)
  subst hp
  refine W.widen (k := 0) (n := 0) (by decide) (by decide) ?_
  refine lv_if_eq (tgt := 22) hx hb dX11_move_8 (by decide) (fun c4 => ?_) (fun c4 => ?_)
  · replace h := ite_t h c4
    refine lv_ldc2 hx hb hown (hts _ kX11_move_c88) dX11_move_22 ?_
    cases h
    exact r_lret C hw rfl (by decide) (by decide) dX11_move_25
  · replace h := ite_f h c4
    refine lv_aload_n hx hb dX11_move_11 rfl (lv_at hl 0 rfl) ?_
    refine r_getR (ci := 11) (C := RX11) (U := TX11) (N := 9) hx hb hts kX11_move_iX11 hown hK hw 0 (by decide) rfl rfl 4 (by decide) 5 rfl (hts _ kX11_move_f44) (fun _ h9 => h9) dX11_move_12 ?_
    refine lv_iload_n hx hb dX11_move_15 rfl (lv_at hl 2 rfl) ?_
    obtain ⟨y5, sg6, hq7, h2⟩ := bnd2_some h
    replace h := h2
    clear h2
    refine r_cVi (As := [.int v2]) (rest := []) C hw 5 (by decide) (ci := 5) rfl rfl (mX5_isPlace l D T ad lg H.size v2 sg2 hq7) (cwV 1 hts gX11_move_X5_isPlace rfl rfl rfl (by decide +kernel) ⟨Nat.le_of_ble_eq_true rfl, Nat.le_of_ble_eq_true rfl⟩) rfl hl.1 rfl (Nat.le_of_ble_eq_true rfl) dX11_move_16 ⟨Nat.le_of_ble_eq_true rfl, Nat.le_of_ble_eq_true rfl⟩ (fun ad' H locs hp hw => ?_)
    subst hp
    refine W.widen (k := 0) (n := 0) (by decide) (by decide) ?_
    refine lv_if_ne (tgt := 26) hx hb dX11_move_19 (by decide) (fun c8 => ?_) (fun c8 => ?_)
    · replace h := ite_f h c8
      refine lv_aload_n hx hb dX11_move_26 rfl (lv_at hl 0 rfl) ?_
      refine r_getR (ci := 11) (C := RX11) (U := TX11) (N := 9) hx hb hts kX11_move_iX11 hown hK hw 0 (by decide) rfl rfl 4 (by decide) 5 rfl (hts _ kX11_move_f44) (fun _ h9 => h9) dX11_move_27 ?_
      refine r_getR (ci := 5) (C := RX5) (U := TX5) (N := 2) hx hb hts kX11_move_iX5 hown hK hw 5 (by decide) rfl rfl 1 (by decide) 31 rfl (hts _ kX11_move_f202) (fun _ h9 => h9) dX11_move_30 ?_
      refine lv_iload_n hx hb dX11_move_33 rfl (lv_at hl 1 rfl) ?_
      refine lv_iload_n hx hb dX11_move_34 rfl (lv_at hl 2 rfl) ?_
      obtain ⟨sg9, hq10, h2⟩ := bnd1_some h
      replace h := h2
      clear h2
      refine r_cSv (As := [.ref (ad 31), .int v1, .int v2]) (rest := []) C hw (mX11_shift_c31 l D T ad lg H.size v1 v2 sg6 hq10) (va_cwS 3 hts gX11_move_X11_shift rfl rfl rfl (by decide +kernel) ⟨Nat.le_of_ble_eq_true rfl, Nat.le_of_ble_eq_true rfl⟩) rfl hl.1 rfl (Nat.le_of_ble_eq_true rfl) dX11_move_35 ⟨Nat.le_of_ble_eq_true rfl, Nat.le_of_ble_eq_true rfl⟩ (fun ad' H locs hp hw => ?_)
      subst hp
      refine W.widen (k := 0) (n := 0) (by decide) (by decide) ?_
      refine lv_lconst (v := (0 : Int64)) hx hb dX11_move_38 (by decide) ?_
      cases h
      exact r_lret C hw rfl (by decide) (by decide) dX11_move_39
    · replace h := ite_t h c8
      refine lv_ldc2 hx hb hown (hts _ kX11_move_c88) dX11_move_22 ?_
      cases h
      exact r_lret C hw rfl (by decide) (by decide) dX11_move_25
theorem mX11_move (l : Launch) (D : va_G) (T : Nat → ClassId) (ad : Nat → Nat) (lg : Lg) (sz : Nat)   (v1 : Int32) (v2 : Int32) (sg : Sg) {ro : Int64} {so : Sg} (h : fX11_move v1 v2 sg = some (ro, so)) : Met l yX11_move wsX11_move rmX11_move (PreZ ZC D vwCl T (tysC T) ad sg lg true nwL [.ref (ad 0), .int v1, .int v2] sz) (QL ZC D vwCl T (tysC T) (va_A (zwd ZC T ad sg lg) sz) (fun z => ad = z) ro so lg) 0 0 (va_A (zwd ZC T ad sg lg) sz) :=
  metZ [.ref (ad 0), .int v1, .int v2] sz (by decide) rfl (Nat.le_of_ble_eq_true rfl) (fun p e s m below meth c ls C hw hl => tX11_move_0 C v1 v2 sg _ _ _ hw hl h)
-- PeckYard$Line.upsetWeight()J
def rmX7_upsetWeight : Room := { frames := 1, cells := 0, slots := 0, locals := 22 }
theorem kX7_upsetWeight_f21 : Cond.fieldLink RX7 21 "PeckYard$Line" "muster" "LPeckYard$Muster;" ∈ wsX7_upsetWeight := by decide +kernel
theorem kX7_upsetWeight_iX7 : ∀ w ∈ u_ws RX7 TX7 4, w ∈ wsX7_upsetWeight := by decide +kernel
theorem kX7_upsetWeight_f36 : Cond.fieldLink RX7 36 "PeckYard$Muster" "size" "I" ∈ wsX7_upsetWeight := by decide +kernel
theorem kX7_upsetWeight_iX8 : ∀ w ∈ u_ws RX8 TX8 10, w ∈ wsX7_upsetWeight := by decide +kernel
theorem kX7_upsetWeight_f9 : Cond.fieldLink RX7 9 "PeckYard$Line" "row" "[I" ∈ wsX7_upsetWeight := by decide +kernel
def fX7_upsetWeight_18 (r4 : (Int64 × Int32 × Sg) → Option (Int64 × Sg)) (r18 : (Int64 × Int32 × Int32 × Sg) → Option (Int64 × Sg)) (v1 : Int64) (v3 : Int32) (v4 : Int32) (sg : Sg) : Option (Int64 × Sg) :=
  (if v3 ≤ v4 then lt (v3 + (1 : Int32)) (fun x2 => r4 (v1, x2, sg)) else gin v3 12 (gin v4 12 (bnd2 (fX8_peckOf (sg 32 v3.toNatClampNeg) (sg 32 v4.toNatClampNeg) sg) (fun y5 sg6 => lt (v1 + y5.toInt64) (fun x8 => lt (v4 + (1 : Int32)) (fun x9 => r18 (x8, v3, x9, sg6)))))))
set_option maxHeartbeats 4000000 in
set_option maxRecDepth 100000 in
theorem tX7_upsetWeight_18 (C : Cx p s m args meth c cX7_upsetWeight 5 RX7 wsX7_upsetWeight (some .long) D vwCl (tysC T) A true nwL) {ro : Int64} {so : Sg} {r4 : (Int64 × Int32 × Sg) → Option (Int64 × Sg)} {r18 : (Int64 × Int32 × Int32 × Sg) → Option (Int64 × Sg)} (hr4 : ∀ (v1 : Int64) (v3 : Int32) (sg : Sg), r4 (v1, v3, sg) = some (ro, so) → ∀ (H : Heap) (locs : List Loc) (ls : Array Slot), WS ZC D vwCl T ad sg lg A s.heap H locs → lv_has ls 5 [(0, .ref (ad 6)), (1, .long v1), (3, .int v3)] → W p l e rmX7_upsetWeight s m args below meth c H locs 0 0 (MQ below (QL ZC D vwCl T (tysC T) A (fun z => ad = z) ro so lg) args s 0 0 A) (F0 m 4 ls [])) (hr18 : ∀ (v1 : Int64) (v3 : Int32) (v4 : Int32) (sg : Sg), r18 (v1, v3, v4, sg) = some (ro, so) → ∀ (H : Heap) (locs : List Loc) (ls : Array Slot), WS ZC D vwCl T ad sg lg A s.heap H locs → lv_has ls 5 [(0, .ref (ad 6)), (1, .long v1), (3, .int v3), (4, .int v4)] → W p l e rmX7_upsetWeight s m args below meth c H locs 0 0 (MQ below (QL ZC D vwCl T (tysC T) A (fun z => ad = z) ro so lg) args s 0 0 A) (F0 m 18 ls [])) : ∀ (v1 : Int64) (v3 : Int32) (v4 : Int32) (sg : Sg), ∀ (H : Heap) (locs : List Loc) (ls : Array Slot), WS ZC D vwCl T ad sg lg A s.heap H locs → lv_has ls 5 [(0, .ref (ad 6)), (1, .long v1), (3, .int v3), (4, .int v4)] → fX7_upsetWeight_18 r4 r18 v1 v3 v4 sg = some (ro, so) → W p l e rmX7_upsetWeight s m args below meth c H locs 0 0 (MQ below (QL ZC D vwCl T (tysC T) A (fun z => ad = z) ro so lg) args s 0 0 A) (F0 m 18 ls []) := by
  obtain ⟨⟨hx, hb, hml, hown, hts⟩, hr, hlk, hK, hA, hsp⟩ := id C
  intro v1 v3 v4 sg H locs ls hw hl h
  unfold fX7_upsetWeight_18 at h
  refine lv_iload hx hb dX7_upsetWeight_18 (lv_at hl 3 rfl) ?_
  refine lv_iload_n hx hb dX7_upsetWeight_20 rfl (lv_at hl 2 rfl) ?_
  refine lv_icmp_ge (tgt := 54) hx hb dX7_upsetWeight_21 (by decide) (fun c1 => ?_) (fun c1 => ?_)
  · replace h := ite_t h c1
    obtain ⟨x2, ex2⟩ : ∃ z : Int32, z = (v3 + (1 : Int32)) := ⟨_, rfl⟩
    replace h := lt_get h x2 ex2
    refine lv_iinc (v := x2) (lv' := [(3, .int x2), (0, .ref (ad 6)), (1, .long v1), (4, .int v4)]) hx hb dX7_upsetWeight_54 hl (k := 2) rfl (by rw [ex2]; rfl) (by decide) rfl (fun ls hl => ?_)
    refine lv_goto (tgt := 4) hx hb dX7_upsetWeight_57 (by decide) ?_
    exact hr4 v1 x2 sg h _ _ _ hw (lv_sub hl [1, 2, 0] rfl)
  · replace h := ite_f h c1
    refine lv_lload_n hx hb dX7_upsetWeight_24 rfl (lv_at hl 1 rfl) ?_
    refine lv_aload_n hx hb dX7_upsetWeight_25 rfl (lv_at hl 0 rfl) ?_
    refine r_getR (ci := 7) (C := RX7) (U := TX7) (N := 4) hx hb hts kX7_upsetWeight_iX7 hown hK hw 6 (by decide) rfl rfl 0 (by decide) 3 rfl (hts _ kX7_upsetWeight_f21) (fun _ h9 => h9) dX7_upsetWeight_26 ?_
    refine lv_aload_n hx hb dX7_upsetWeight_29 rfl (lv_at hl 0 rfl) ?_
    refine r_getR (ci := 7) (C := RX7) (U := TX7) (N := 4) hx hb hts kX7_upsetWeight_iX7 hown hK hw 6 (by decide) rfl rfl 1 (by decide) 32 rfl (hts _ kX7_upsetWeight_f9) (fun _ h9 => h9) dX7_upsetWeight_30 ?_
    refine lv_iload_n hx hb dX7_upsetWeight_33 rfl (lv_at hl 2 rfl) ?_
    have hi3 := (gin_some h).1
    replace h := (gin_some h).2
    refine r_iald hx hb hK hw 32 0 12 (by decide) rfl rfl rfl hi3 dX7_upsetWeight_34 ?_
    refine lv_aload_n hx hb dX7_upsetWeight_35 rfl (lv_at hl 0 rfl) ?_
    refine r_getR (ci := 7) (C := RX7) (U := TX7) (N := 4) hx hb hts kX7_upsetWeight_iX7 hown hK hw 6 (by decide) rfl rfl 1 (by decide) 32 rfl (hts _ kX7_upsetWeight_f9) (fun _ h9 => h9) dX7_upsetWeight_36 ?_
    refine lv_iload hx hb dX7_upsetWeight_39 (lv_at hl 3 rfl) ?_
    have hi4 := (gin_some h).1
    replace h := (gin_some h).2
    refine r_iald hx hb hK hw 32 0 12 (by decide) rfl rfl rfl hi4 dX7_upsetWeight_41 ?_
    obtain ⟨y5, sg6, hq7, h2⟩ := bnd2_some h
    replace h := h2
    clear h2
    refine r_cVi (As := [.int (sg 32 v3.toNatClampNeg), .int (sg 32 v4.toNatClampNeg)]) (rest := [.long v1]) C hw 3 (by decide) (ci := 8) rfl rfl (mX8_peckOf l D T ad lg H.size (sg 32 v3.toNatClampNeg) (sg 32 v4.toNatClampNeg) sg hq7) (cwV 2 hts gX7_upsetWeight_X8_peckOf rfl rfl rfl (by decide +kernel) ⟨Nat.le_of_ble_eq_true rfl, Nat.le_of_ble_eq_true rfl⟩) rfl hl.1 rfl (Nat.le_of_ble_eq_true rfl) dX7_upsetWeight_42 ⟨Nat.le_of_ble_eq_true rfl, Nat.le_of_ble_eq_true rfl⟩ (fun ad' H locs hp hw => ?_)
    subst hp
    refine W.widen (k := 0) (n := 0) (by decide) (by decide) ?_
    refine lv_i2l (v := y5.toInt64) hx hb dX7_upsetWeight_45 rfl ?_
    refine lv_ladd hx hb dX7_upsetWeight_46 ?_
    refine lv_topl (fun x8 ex8 => ?_)
    replace h := lt_get h x8 ex8
    refine lv_lstore_n (lv' := [(1, .long x8), (0, .ref (ad 6)), (3, .int v3), (4, .int v4)]) hx hb dX7_upsetWeight_47 rfl hl (by decide) rfl (fun ls hl => ?_)
    obtain ⟨x9, ex9⟩ : ∃ z : Int32, z = (v4 + (1 : Int32)) := ⟨_, rfl⟩
    replace h := lt_get h x9 ex9
    refine lv_iinc (v := x9) (lv' := [(4, .int x9), (1, .long x8), (0, .ref (ad 6)), (3, .int v3)]) hx hb dX7_upsetWeight_48 hl (k := 3) rfl (by rw [ex9]; rfl) (by decide) rfl (fun ls hl => ?_)
    refine lv_goto (tgt := 18) hx hb dX7_upsetWeight_51 (by decide) ?_
    exact hr18 x8 v3 x9 sg6 h _ _ _ hw (lv_sub hl [2, 1, 3, 0] rfl)
def LX7_upsetWeight_18 (r4 : (Int64 × Int32 × Sg) → Option (Int64 × Sg)) : (Int64 × Int32 × Int32 × Sg) → Option (Int64 × Sg) := loop (fun rec z => fX7_upsetWeight_18 r4 rec z.1 z.2.1 z.2.2.1 z.2.2.2)
theorem TX7_upsetWeight_18 (C : Cx p s m args meth c cX7_upsetWeight 5 RX7 wsX7_upsetWeight (some .long) D vwCl (tysC T) A true nwL) {ro : Int64} {so : Sg} {r4 : (Int64 × Int32 × Sg) → Option (Int64 × Sg)} (hr4 : ∀ (v1 : Int64) (v3 : Int32) (sg : Sg), r4 (v1, v3, sg) = some (ro, so) → ∀ (H : Heap) (locs : List Loc) (ls : Array Slot), WS ZC D vwCl T ad sg lg A s.heap H locs → lv_has ls 5 [(0, .ref (ad 6)), (1, .long v1), (3, .int v3)] → W p l e rmX7_upsetWeight s m args below meth c H locs 0 0 (MQ below (QL ZC D vwCl T (tysC T) A (fun z => ad = z) ro so lg) args s 0 0 A) (F0 m 4 ls [])) : ∀ (v1 : Int64) (v3 : Int32) (v4 : Int32) (sg : Sg), LX7_upsetWeight_18 r4 (v1, v3, v4, sg) = some (ro, so) → ∀ (H : Heap) (locs : List Loc) (ls : Array Slot), WS ZC D vwCl T ad sg lg A s.heap H locs → lv_has ls 5 [(0, .ref (ad 6)), (1, .long v1), (3, .int v3), (4, .int v4)] → W p l e rmX7_upsetWeight s m args below meth c H locs 0 0 (MQ below (QL ZC D vwCl T (tysC T) A (fun z => ad = z) ro so lg) args s 0 0 A) (F0 m 18 ls []) := by
  have key : ∀ z : (Int64 × Int32 × Int32 × Sg), LX7_upsetWeight_18 r4 z = some (ro, so) → ∀ (H : Heap) (locs : List Loc) (ls : Array Slot), WS ZC D vwCl T ad z.2.2.2 lg A s.heap H locs → lv_has ls 5 [(0, .ref (ad 6)), (1, .long z.1), (3, .int z.2.1), (4, .int z.2.2.1)] → W p l e rmX7_upsetWeight s m args below meth c H locs 0 0 (MQ below (QL ZC D vwCl T (tysC T) A (fun z => ad = z) ro so lg) args s 0 0 A) (F0 m 18 ls []) := by
    intro z h
    unfold LX7_upsetWeight_18 at h
    exact loop_ind (fun rec z => fX7_upsetWeight_18 r4 rec z.1 z.2.1 z.2.2.1 z.2.2.2) (y := (ro, so)) (P := fun z => ∀ (H : Heap) (locs : List Loc) (ls : Array Slot), WS ZC D vwCl T ad z.2.2.2 lg A s.heap H locs → lv_has ls 5 [(0, .ref (ad 6)), (1, .long z.1), (3, .int z.2.1), (4, .int z.2.2.1)] → W p l e rmX7_upsetWeight s m args below meth c H locs 0 0 (MQ below (QL ZC D vwCl T (tysC T) A (fun z => ad = z) ro so lg) args s 0 0 A) (F0 m 18 ls [])) (fun rec hrec z h H locs ls hw hl => tX7_upsetWeight_18 C hr4 (fun v1 v3 v4 sg => hrec (v1, v3, v4, sg)) z.1 z.2.1 z.2.2.1 z.2.2.2 H locs ls hw hl h) z h
  exact fun v1 v3 v4 sg => key (v1, v3, v4, sg)
def fX7_upsetWeight_4 (r4 : (Int64 × Int32 × Sg) → Option (Int64 × Sg)) (v1 : Int64) (v3 : Int32) (sg : Sg) : Option (Int64 × Sg) :=
  (if (sg 3 2) ≤ v3 then some (v1, sg) else LX7_upsetWeight_18 r4 (v1, v3, (0 : Int32), sg))
set_option maxHeartbeats 4000000 in
set_option maxRecDepth 100000 in
theorem tX7_upsetWeight_4 (C : Cx p s m args meth c cX7_upsetWeight 5 RX7 wsX7_upsetWeight (some .long) D vwCl (tysC T) A true nwL) {ro : Int64} {so : Sg} {r4 : (Int64 × Int32 × Sg) → Option (Int64 × Sg)} (hr4 : ∀ (v1 : Int64) (v3 : Int32) (sg : Sg), r4 (v1, v3, sg) = some (ro, so) → ∀ (H : Heap) (locs : List Loc) (ls : Array Slot), WS ZC D vwCl T ad sg lg A s.heap H locs → lv_has ls 5 [(0, .ref (ad 6)), (1, .long v1), (3, .int v3)] → W p l e rmX7_upsetWeight s m args below meth c H locs 0 0 (MQ below (QL ZC D vwCl T (tysC T) A (fun z => ad = z) ro so lg) args s 0 0 A) (F0 m 4 ls [])) : ∀ (v1 : Int64) (v3 : Int32) (sg : Sg), ∀ (H : Heap) (locs : List Loc) (ls : Array Slot), WS ZC D vwCl T ad sg lg A s.heap H locs → lv_has ls 5 [(0, .ref (ad 6)), (1, .long v1), (3, .int v3)] → fX7_upsetWeight_4 r4 v1 v3 sg = some (ro, so) → W p l e rmX7_upsetWeight s m args below meth c H locs 0 0 (MQ below (QL ZC D vwCl T (tysC T) A (fun z => ad = z) ro so lg) args s 0 0 A) (F0 m 4 ls []) := by
  obtain ⟨⟨hx, hb, hml, hown, hts⟩, hr, hlk, hK, hA, hsp⟩ := id C
  intro v1 v3 sg H locs ls hw hl h
  unfold fX7_upsetWeight_4 at h
  refine lv_iload_n hx hb dX7_upsetWeight_4 rfl (lv_at hl 2 rfl) ?_
  refine lv_aload_n hx hb dX7_upsetWeight_5 rfl (lv_at hl 0 rfl) ?_
  refine r_getR (ci := 7) (C := RX7) (U := TX7) (N := 4) hx hb hts kX7_upsetWeight_iX7 hown hK hw 6 (by decide) rfl rfl 0 (by decide) 3 rfl (hts _ kX7_upsetWeight_f21) (fun _ h9 => h9) dX7_upsetWeight_6 ?_
  refine r_getI (ci := 8) (C := RX8) (U := TX8) (N := 10) hx hb hts kX7_upsetWeight_iX8 hown hK hw 3 (by decide) rfl rfl 2 (by decide) rfl (hts _ kX7_upsetWeight_f36) (fun _ h9 => h9) dX7_upsetWeight_9 ?_
  refine lv_icmp_ge (tgt := 60) hx hb dX7_upsetWeight_12 (by decide) (fun c1 => ?_) (fun c1 => ?_)
  · replace h := ite_t h c1
    refine lv_lload_n hx hb dX7_upsetWeight_60 rfl (lv_at hl 1 rfl) ?_
    cases h
    exact r_lret C hw rfl (by decide) (by decide) dX7_upsetWeight_61
  · replace h := ite_f h c1
    refine lv_iconst (v := (0 : Int32)) hx hb dX7_upsetWeight_15 (by decide) ?_
    refine lv_istore (lv' := [(4, .int (0 : Int32)), (0, .ref (ad 6)), (1, .long v1), (3, .int v3)]) hx hb dX7_upsetWeight_16 hl (by decide) rfl (fun ls hl => ?_)
    exact TX7_upsetWeight_18 C hr4 v1 v3 (0 : Int32) sg h _ _ _ hw (lv_sub hl [1, 2, 3, 0] rfl)
def LX7_upsetWeight_4  : (Int64 × Int32 × Sg) → Option (Int64 × Sg) := loop (fun rec z => fX7_upsetWeight_4 rec z.1 z.2.1 z.2.2)
theorem TX7_upsetWeight_4 (C : Cx p s m args meth c cX7_upsetWeight 5 RX7 wsX7_upsetWeight (some .long) D vwCl (tysC T) A true nwL) {ro : Int64} {so : Sg}   : ∀ (v1 : Int64) (v3 : Int32) (sg : Sg), LX7_upsetWeight_4 (v1, v3, sg) = some (ro, so) → ∀ (H : Heap) (locs : List Loc) (ls : Array Slot), WS ZC D vwCl T ad sg lg A s.heap H locs → lv_has ls 5 [(0, .ref (ad 6)), (1, .long v1), (3, .int v3)] → W p l e rmX7_upsetWeight s m args below meth c H locs 0 0 (MQ below (QL ZC D vwCl T (tysC T) A (fun z => ad = z) ro so lg) args s 0 0 A) (F0 m 4 ls []) := by
  have key : ∀ z : (Int64 × Int32 × Sg), LX7_upsetWeight_4  z = some (ro, so) → ∀ (H : Heap) (locs : List Loc) (ls : Array Slot), WS ZC D vwCl T ad z.2.2 lg A s.heap H locs → lv_has ls 5 [(0, .ref (ad 6)), (1, .long z.1), (3, .int z.2.1)] → W p l e rmX7_upsetWeight s m args below meth c H locs 0 0 (MQ below (QL ZC D vwCl T (tysC T) A (fun z => ad = z) ro so lg) args s 0 0 A) (F0 m 4 ls []) := by
    intro z h
    unfold LX7_upsetWeight_4 at h
    exact loop_ind (fun rec z => fX7_upsetWeight_4 rec z.1 z.2.1 z.2.2) (y := (ro, so)) (P := fun z => ∀ (H : Heap) (locs : List Loc) (ls : Array Slot), WS ZC D vwCl T ad z.2.2 lg A s.heap H locs → lv_has ls 5 [(0, .ref (ad 6)), (1, .long z.1), (3, .int z.2.1)] → W p l e rmX7_upsetWeight s m args below meth c H locs 0 0 (MQ below (QL ZC D vwCl T (tysC T) A (fun z => ad = z) ro so lg) args s 0 0 A) (F0 m 4 ls [])) (fun rec hrec z h H locs ls hw hl => tX7_upsetWeight_4 C  (fun v1 v3 sg => hrec (v1, v3, sg)) z.1 z.2.1 z.2.2 H locs ls hw hl h) z h
  exact fun v1 v3 sg => key (v1, v3, sg)
def fX7_upsetWeight  (sg : Sg) : Option (Int64 × Sg) :=
  LX7_upsetWeight_4 ((0 : Int64), (1 : Int32), sg)
set_option maxHeartbeats 4000000 in
set_option maxRecDepth 100000 in
theorem tX7_upsetWeight_0 (C : Cx p s m args meth c cX7_upsetWeight 5 RX7 wsX7_upsetWeight (some .long) D vwCl (tysC T) A true nwL) {ro : Int64} {so : Sg}   : ∀ (sg : Sg), ∀ (H : Heap) (locs : List Loc) (ls : Array Slot), WS ZC D vwCl T ad sg lg A s.heap H locs → lv_has ls 5 [(0, .ref (ad 6))] → fX7_upsetWeight sg = some (ro, so) → W p l e rmX7_upsetWeight s m args below meth c H locs 0 0 (MQ below (QL ZC D vwCl T (tysC T) A (fun z => ad = z) ro so lg) args s 0 0 A) (F0 m 0 ls []) := by
  obtain ⟨⟨hx, hb, hml, hown, hts⟩, hr, hlk, hK, hA, hsp⟩ := id C
  intro sg H locs ls hw hl h
  unfold fX7_upsetWeight at h
  refine lv_lconst (v := (0 : Int64)) hx hb dX7_upsetWeight_0 (by decide) ?_
  refine lv_lstore_n (lv' := [(1, .long (0 : Int64)), (0, .ref (ad 6))]) hx hb dX7_upsetWeight_1 rfl hl (by decide) rfl (fun ls hl => ?_)
  refine lv_iconst (v := (1 : Int32)) hx hb dX7_upsetWeight_2 (by decide) ?_
  refine lv_istore_n (lv' := [(3, .int (1 : Int32)), (1, .long (0 : Int64)), (0, .ref (ad 6))]) hx hb dX7_upsetWeight_3 rfl hl (by decide) rfl (fun ls hl => ?_)
  exact TX7_upsetWeight_4 C (0 : Int64) (1 : Int32) sg h _ _ _ hw (lv_sub hl [2, 1, 0] rfl)
theorem mX7_upsetWeight (l : Launch) (D : va_G) (T : Nat → ClassId) (ad : Nat → Nat) (lg : Lg) (sz : Nat)   (sg : Sg) {ro : Int64} {so : Sg} (h : fX7_upsetWeight sg = some (ro, so)) : Met l yX7_upsetWeight wsX7_upsetWeight rmX7_upsetWeight (PreZ ZC D vwCl T (tysC T) ad sg lg true nwL [.ref (ad 6)] sz) (QL ZC D vwCl T (tysC T) (va_A (zwd ZC T ad sg lg) sz) (fun z => ad = z) ro so lg) 0 0 (va_A (zwd ZC T ad sg lg) sz) :=
  metZ [.ref (ad 6)] sz (by decide) rfl (Nat.le_of_ble_eq_true rfl) (fun p e s m below meth c ls C hw hl => tX7_upsetWeight_0 C sg _ _ _ hw hl h)
-- PeckYard.weight()J
def rmX11_weight : Room := { frames := 4, cells := 0, slots := 0, locals := 87 }
theorem kX11_weight_f51 : Cond.fieldLink RX11 51 "PeckYard" "line" "LPeckYard$Line;" ∈ wsX11_weight := by decide +kernel
theorem kX11_weight_iX11 : ∀ w ∈ u_ws RX11 TX11 9, w ∈ wsX11_weight := by decide +kernel
theorem kX11_weight_f44 : Cond.fieldLink RX11 44 "PeckYard" "hand" "LPeckYard$Hand;" ∈ wsX11_weight := by decide +kernel
theorem kX11_weight_c113 : Cond.constantLong RX11 113 (-2000000002) ∈ wsX11_weight := by decide +kernel
def fX11_weight  (sg : Sg) : Option (Int64 × Sg) :=
  bnd2 (fX7_readFrom sg) (fun y1 sg2 => (if y1 = 0 then some ((-2000000002 : Int64), sg2) else bnd2 (fX7_upsetWeight sg2) (fun y5 sg6 => some (y5, sg6))))
set_option maxHeartbeats 4000000 in
set_option maxRecDepth 100000 in
theorem tX11_weight_0 (C : Cx p s m args meth c cX11_weight 1 RX11 wsX11_weight (some .long) D vwCl (tysC T) A true nwL) {ro : Int64} {so : Sg}   : ∀ (sg : Sg), ∀ (H : Heap) (locs : List Loc) (ls : Array Slot), WS ZC D vwCl T ad sg lg A s.heap H locs → lv_has ls 1 [(0, .ref (ad 0))] → fX11_weight sg = some (ro, so) → W p l e rmX11_weight s m args below meth c H locs 0 0 (MQ below (QL ZC D vwCl T (tysC T) A (fun z => ad = z) ro so lg) args s 0 0 A) (F0 m 0 ls []) := by
  obtain ⟨⟨hx, hb, hml, hown, hts⟩, hr, hlk, hK, hA, hsp⟩ := id C
  intro sg H locs ls hw hl h
  unfold fX11_weight at h
  refine lv_aload_n hx hb dX11_weight_0 rfl (lv_at hl 0 rfl) ?_
  refine r_getR (ci := 11) (C := RX11) (U := TX11) (N := 9) hx hb hts kX11_weight_iX11 hown hK hw 0 (by decide) rfl rfl 5 (by decide) 6 rfl (hts _ kX11_weight_f51) (fun _ h9 => h9) dX11_weight_1 ?_
  refine lv_aload_n hx hb dX11_weight_4 rfl (lv_at hl 0 rfl) ?_
  refine r_getR (ci := 11) (C := RX11) (U := TX11) (N := 9) hx hb hts kX11_weight_iX11 hown hK hw 0 (by decide) rfl rfl 4 (by decide) 5 rfl (hts _ kX11_weight_f44) (fun _ h9 => h9) dX11_weight_5 ?_
  obtain ⟨y1, sg2, hq3, h2⟩ := bnd2_some h
  replace h := h2
  clear h2
  refine r_cVi (As := [.ref (ad 5)]) (rest := []) C hw 6 (by decide) (ci := 7) rfl rfl (mX7_readFrom l D T ad lg H.size sg hq3) (cwV 1 hts gX11_weight_X7_readFrom rfl rfl rfl (by decide +kernel) ⟨Nat.le_of_ble_eq_true rfl, Nat.le_of_ble_eq_true rfl⟩) rfl hl.1 rfl (Nat.le_of_ble_eq_true rfl) dX11_weight_8 ⟨Nat.le_of_ble_eq_true rfl, Nat.le_of_ble_eq_true rfl⟩ (fun ad' H locs hp hw => ?_)
  subst hp
  refine W.widen (k := 0) (n := 0) (by decide) (by decide) ?_
  refine lv_if_eq (tgt := 24) hx hb dX11_weight_11 (by decide) (fun c4 => ?_) (fun c4 => ?_)
  · replace h := ite_t h c4
    refine lv_ldc2 hx hb hown (hts _ kX11_weight_c113) dX11_weight_24 ?_
    cases h
    exact r_lret C hw rfl (by decide) (by decide) dX11_weight_27
  · replace h := ite_f h c4
    refine lv_aload_n hx hb dX11_weight_14 rfl (lv_at hl 0 rfl) ?_
    refine r_getR (ci := 11) (C := RX11) (U := TX11) (N := 9) hx hb hts kX11_weight_iX11 hown hK hw 0 (by decide) rfl rfl 5 (by decide) 6 rfl (hts _ kX11_weight_f51) (fun _ h9 => h9) dX11_weight_15 ?_
    obtain ⟨y5, sg6, hq7, h2⟩ := bnd2_some h
    replace h := h2
    clear h2
    refine r_cVl (As := []) (rest := []) C hw 6 (by decide) (ci := 7) rfl rfl (mX7_upsetWeight l D T ad lg H.size sg2 hq7) (cwV 0 hts gX11_weight_X7_upsetWeight rfl rfl rfl (by decide +kernel) ⟨Nat.le_of_ble_eq_true rfl, Nat.le_of_ble_eq_true rfl⟩) rfl hl.1 rfl (Nat.le_of_ble_eq_true rfl) dX11_weight_18 ⟨Nat.le_of_ble_eq_true rfl, Nat.le_of_ble_eq_true rfl⟩ (fun ad' H locs hp hw => ?_)
    subst hp
    refine W.widen (k := 0) (n := 0) (by decide) (by decide) ?_
    refine lv_goto (tgt := 27) hx hb dX11_weight_21 (by decide) ?_
    cases h
    exact r_lret C hw rfl (by decide) (by decide) dX11_weight_27
theorem mX11_weight (l : Launch) (D : va_G) (T : Nat → ClassId) (ad : Nat → Nat) (lg : Lg) (sz : Nat)   (sg : Sg) {ro : Int64} {so : Sg} (h : fX11_weight sg = some (ro, so)) : Met l yX11_weight wsX11_weight rmX11_weight (PreZ ZC D vwCl T (tysC T) ad sg lg true nwL [.ref (ad 0)] sz) (QL ZC D vwCl T (tysC T) (va_A (zwd ZC T ad sg lg) sz) (fun z => ad = z) ro so lg) 0 0 (va_A (zwd ZC T ad sg lg) sz) :=
  metZ [.ref (ad 0)] sz (by decide) rfl (Nat.le_of_ble_eq_true rfl) (fun p e s m below meth c ls C hw hl => tX11_weight_0 C sg _ _ _ hw hl h)
-- PeckYard$Line.isKept(I)Z
def rmX7_isKept : Room := { frames := 0, cells := 0, slots := 0, locals := 0 }
theorem kX7_isKept_f21 : Cond.fieldLink RX7 21 "PeckYard$Line" "muster" "LPeckYard$Muster;" ∈ wsX7_isKept := by decide +kernel
theorem kX7_isKept_iX7 : ∀ w ∈ u_ws RX7 TX7 4, w ∈ wsX7_isKept := by decide +kernel
theorem kX7_isKept_f58 : Cond.fieldLink RX7 58 "PeckYard$Muster" "wants" "[I" ∈ wsX7_isKept := by decide +kernel
theorem kX7_isKept_iX8 : ∀ w ∈ u_ws RX8 TX8 10, w ∈ wsX7_isKept := by decide +kernel
theorem kX7_isKept_f15 : Cond.fieldLink RX7 15 "PeckYard$Line" "place" "[I" ∈ wsX7_isKept := by decide +kernel
theorem kX7_isKept_f61 : Cond.fieldLink RX7 61 "PeckYard$Muster" "kind" "[I" ∈ wsX7_isKept := by decide +kernel
def fX7_isKept  (v1 : Int32) (sg : Sg) : Option (Int32 × Sg) :=
  gin v1 12 (lt (sg 20 v1.toNatClampNeg) (fun x2 => (if x2 = (-1 : Int32) then some ((1 : Int32), sg) else gin v1 12 (gin x2 12 (lt ((sg 33 v1.toNatClampNeg) - (sg 33 x2.toNatClampNeg)) (fun x6 => gin v1 12 (lt (sg 19 v1.toNatClampNeg) (fun x8 => (if x8 = (1 : Int32) then (if x6 ≤ 0 then some ((0 : Int32), sg) else some ((1 : Int32), sg)) else (if x8 = (2 : Int32) then (if 0 ≤ x6 then some ((0 : Int32), sg) else some ((1 : Int32), sg)) else (if x8 = (3 : Int32) then (if x6 = (1 : Int32) then some ((1 : Int32), sg) else some ((0 : Int32), sg)) else some ((1 : Int32), sg))))))))))))
set_option maxHeartbeats 4000000 in
set_option maxRecDepth 100000 in
theorem tX7_isKept_0 (C : Cx p s m args meth c cX7_isKept 4 RX7 wsX7_isKept (some .boolean) D vwCl (tysC T) A true nwL) {ro : Int32} {so : Sg}   : ∀ (v1 : Int32) (sg : Sg), ∀ (H : Heap) (locs : List Loc) (ls : Array Slot), WS ZC D vwCl T ad sg lg A s.heap H locs → lv_has ls 4 [(0, .ref (ad 6)), (1, .int v1)] → fX7_isKept v1 sg = some (ro, so) → W p l e rmX7_isKept s m args below meth c H locs 0 0 (MQ below (QI ZC D vwCl T (tysC T) A (fun z => ad = z) ro so lg) args s 0 0 A) (F0 m 0 ls []) := by
  obtain ⟨⟨hx, hb, hml, hown, hts⟩, hr, hlk, hK, hA, hsp⟩ := id C
  intro v1 sg H locs ls hw hl h
  unfold fX7_isKept at h
  refine lv_aload_n hx hb dX7_isKept_0 rfl (lv_at hl 0 rfl) ?_
  refine r_getR (ci := 7) (C := RX7) (U := TX7) (N := 4) hx hb hts kX7_isKept_iX7 hown hK hw 6 (by decide) rfl rfl 0 (by decide) 3 rfl (hts _ kX7_isKept_f21) (fun _ h9 => h9) dX7_isKept_1 ?_
  refine r_getR (ci := 8) (C := RX8) (U := TX8) (N := 10) hx hb hts kX7_isKept_iX8 hown hK hw 3 (by decide) rfl rfl 6 (by decide) 20 rfl (hts _ kX7_isKept_f58) (fun _ h9 => h9) dX7_isKept_4 ?_
  refine lv_iload_n hx hb dX7_isKept_7 rfl (lv_at hl 1 rfl) ?_
  have hi1 := (gin_some h).1
  replace h := (gin_some h).2
  refine r_iald hx hb hK hw 20 0 12 (by decide) rfl rfl rfl hi1 dX7_isKept_8 ?_
  refine lv_topi (fun x2 ex2 => ?_)
  replace h := lt_get h x2 ex2
  refine lv_istore_n (lv' := [(2, .int x2), (0, .ref (ad 6)), (1, .int v1)]) hx hb dX7_isKept_9 rfl hl (by decide) rfl (fun ls hl => ?_)
  refine lv_iload_n hx hb dX7_isKept_10 rfl (lv_at hl 0 rfl) ?_
  refine lv_iconst (v := (-1 : Int32)) hx hb dX7_isKept_11 (by decide) ?_
  refine lv_icmp_ne (tgt := 17) hx hb dX7_isKept_12 (by decide) (fun c3 => ?_) (fun c3 => ?_)
  · replace h := ite_f h c3
    refine lv_aload_n hx hb dX7_isKept_17 rfl (lv_at hl 1 rfl) ?_
    refine r_getR (ci := 7) (C := RX7) (U := TX7) (N := 4) hx hb hts kX7_isKept_iX7 hown hK hw 6 (by decide) rfl rfl 2 (by decide) 33 rfl (hts _ kX7_isKept_f15) (fun _ h9 => h9) dX7_isKept_18 ?_
    refine lv_iload_n hx hb dX7_isKept_21 rfl (lv_at hl 2 rfl) ?_
    have hi4 := (gin_some h).1
    replace h := (gin_some h).2
    refine r_iald hx hb hK hw 33 0 12 (by decide) rfl rfl rfl hi4 dX7_isKept_22 ?_
    refine lv_aload_n hx hb dX7_isKept_23 rfl (lv_at hl 1 rfl) ?_
    refine r_getR (ci := 7) (C := RX7) (U := TX7) (N := 4) hx hb hts kX7_isKept_iX7 hown hK hw 6 (by decide) rfl rfl 2 (by decide) 33 rfl (hts _ kX7_isKept_f15) (fun _ h9 => h9) dX7_isKept_24 ?_
    refine lv_iload_n hx hb dX7_isKept_27 rfl (lv_at hl 0 rfl) ?_
    have hi5 := (gin_some h).1
    replace h := (gin_some h).2
    refine r_iald hx hb hK hw 33 0 12 (by decide) rfl rfl rfl hi5 dX7_isKept_28 ?_
    refine lv_isub hx hb dX7_isKept_29 ?_
    refine lv_topi (fun x6 ex6 => ?_)
    replace h := lt_get h x6 ex6
    refine lv_istore_n (lv' := [(3, .int x6), (2, .int x2), (0, .ref (ad 6)), (1, .int v1)]) hx hb dX7_isKept_30 rfl hl (by decide) rfl (fun ls hl => ?_)
    refine lv_aload_n hx hb dX7_isKept_31 rfl (lv_at hl 2 rfl) ?_
    refine r_getR (ci := 7) (C := RX7) (U := TX7) (N := 4) hx hb hts kX7_isKept_iX7 hown hK hw 6 (by decide) rfl rfl 0 (by decide) 3 rfl (hts _ kX7_isKept_f21) (fun _ h9 => h9) dX7_isKept_32 ?_
    refine r_getR (ci := 8) (C := RX8) (U := TX8) (N := 10) hx hb hts kX7_isKept_iX8 hown hK hw 3 (by decide) rfl rfl 5 (by decide) 19 rfl (hts _ kX7_isKept_f61) (fun _ h9 => h9) dX7_isKept_35 ?_
    refine lv_iload_n hx hb dX7_isKept_38 rfl (lv_at hl 3 rfl) ?_
    have hi7 := (gin_some h).1
    replace h := (gin_some h).2
    refine r_iald hx hb hK hw 19 0 12 (by decide) rfl rfl rfl hi7 dX7_isKept_39 ?_
    refine lv_topi (fun x8 ex8 => ?_)
    replace h := lt_get h x8 ex8
    by_cases c9 : x8 = (1 : Int32)
    · replace h := ite_t h c9
      refine lv_tableIn (tgt := 68) (off := 28) hx hb dX7_isKept_40 (by rw [c9]; decide) (by rw [c9]; decide) (by rw [c9]; rfl) (by decide) ?_
      refine lv_iload_n hx hb dX7_isKept_68 rfl (lv_at hl 0 rfl) ?_
      refine lv_if_le (tgt := 76) hx hb dX7_isKept_69 (by decide) (fun c10 => ?_) (fun c10 => ?_)
      · replace h := ite_t h c10
        refine lv_iconst (v := (0 : Int32)) hx hb dX7_isKept_76 (by decide) ?_
        cases h
        exact r_zret C hw rfl (by decide) (by decide) (by decide) dX7_isKept_77
      · replace h := ite_f h c10
        refine lv_iconst (v := (1 : Int32)) hx hb dX7_isKept_72 (by decide) ?_
        refine lv_goto (tgt := 77) hx hb dX7_isKept_73 (by decide) ?_
        cases h
        exact r_zret C hw rfl (by decide) (by decide) (by decide) dX7_isKept_77
    replace h := ite_f h c9
    by_cases c11 : x8 = (2 : Int32)
    · replace h := ite_t h c11
      refine lv_tableIn (tgt := 78) (off := 38) hx hb dX7_isKept_40 (by rw [c11]; decide) (by rw [c11]; decide) (by rw [c11]; rfl) (by decide) ?_
      refine lv_iload_n hx hb dX7_isKept_78 rfl (lv_at hl 0 rfl) ?_
      refine lv_if_ge (tgt := 86) hx hb dX7_isKept_79 (by decide) (fun c12 => ?_) (fun c12 => ?_)
      · replace h := ite_t h c12
        refine lv_iconst (v := (0 : Int32)) hx hb dX7_isKept_86 (by decide) ?_
        cases h
        exact r_zret C hw rfl (by decide) (by decide) (by decide) dX7_isKept_87
      · replace h := ite_f h c12
        refine lv_iconst (v := (1 : Int32)) hx hb dX7_isKept_82 (by decide) ?_
        refine lv_goto (tgt := 87) hx hb dX7_isKept_83 (by decide) ?_
        cases h
        exact r_zret C hw rfl (by decide) (by decide) (by decide) dX7_isKept_87
    replace h := ite_f h c11
    by_cases c13 : x8 = (3 : Int32)
    · replace h := ite_t h c13
      refine lv_tableIn (tgt := 88) (off := 48) hx hb dX7_isKept_40 (by rw [c13]; decide) (by rw [c13]; decide) (by rw [c13]; rfl) (by decide) ?_
      refine lv_iload_n hx hb dX7_isKept_88 rfl (lv_at hl 0 rfl) ?_
      refine lv_iconst (v := (1 : Int32)) hx hb dX7_isKept_89 (by decide) ?_
      refine lv_icmp_ne (tgt := 97) hx hb dX7_isKept_90 (by decide) (fun c14 => ?_) (fun c14 => ?_)
      · replace h := ite_f h c14
        refine lv_iconst (v := (0 : Int32)) hx hb dX7_isKept_97 (by decide) ?_
        cases h
        exact r_zret C hw rfl (by decide) (by decide) (by decide) dX7_isKept_98
      · replace h := ite_t h c14
        refine lv_iconst (v := (1 : Int32)) hx hb dX7_isKept_93 (by decide) ?_
        refine lv_goto (tgt := 98) hx hb dX7_isKept_94 (by decide) ?_
        cases h
        exact r_zret C hw rfl (by decide) (by decide) (by decide) dX7_isKept_98
    replace h := ite_f h c13
    refine lv_tableOut (tgt := 99) hx hb dX7_isKept_40 (by have q0 := lv_neT c9 (a := 1) (by decide); have q1 := lv_neT c11 (a := 2) (by decide); have q2 := lv_neT c13 (a := 3) (by decide); omega) (by decide) ?_
    refine lv_iconst (v := (1 : Int32)) hx hb dX7_isKept_99 (by decide) ?_
    cases h
    exact r_zret C hw rfl (by decide) (by decide) (by decide) dX7_isKept_100
  · replace h := ite_t h c3
    refine lv_iconst (v := (1 : Int32)) hx hb dX7_isKept_15 (by decide) ?_
    cases h
    exact r_zret C hw rfl (by decide) (by decide) (by decide) dX7_isKept_16
theorem mX7_isKept (l : Launch) (D : va_G) (T : Nat → ClassId) (ad : Nat → Nat) (lg : Lg) (sz : Nat)   (v1 : Int32) (sg : Sg) {ro : Int32} {so : Sg} (h : fX7_isKept v1 sg = some (ro, so)) : Met l yX7_isKept wsX7_isKept rmX7_isKept (PreZ ZC D vwCl T (tysC T) ad sg lg true nwL [.ref (ad 6), .int v1] sz) (QI ZC D vwCl T (tysC T) (va_A (zwd ZC T ad sg lg) sz) (fun z => ad = z) ro so lg) 0 0 (va_A (zwd ZC T ad sg lg) sz) :=
  metZ [.ref (ad 6), .int v1] sz (by decide) rfl (Nat.le_of_ble_eq_true rfl) (fun p e s m below meth c ls C hw hl => tX7_isKept_0 C v1 sg _ _ _ hw hl h)
-- PeckYard$Line.leastFault()J
def rmX7_leastFault : Room := { frames := 1, cells := 0, slots := 0, locals := 23 }
theorem kX7_leastFault_f21 : Cond.fieldLink RX7 21 "PeckYard$Line" "muster" "LPeckYard$Muster;" ∈ wsX7_leastFault := by decide +kernel
theorem kX7_leastFault_iX7 : ∀ w ∈ u_ws RX7 TX7 4, w ∈ wsX7_leastFault := by decide +kernel
theorem kX7_leastFault_f36 : Cond.fieldLink RX7 36 "PeckYard$Muster" "size" "I" ∈ wsX7_leastFault := by decide +kernel
theorem kX7_leastFault_iX8 : ∀ w ∈ u_ws RX8 TX8 10, w ∈ wsX7_leastFault := by decide +kernel
theorem kX7_leastFault_c56 : Cond.constantLong RX7 56 (-2000000005) ∈ wsX7_leastFault := by decide +kernel
theorem kX7_leastFault_f43 : Cond.fieldLink RX7 43 "PeckYard$Muster" "hens" "[I" ∈ wsX7_leastFault := by decide +kernel
def fX7_leastFault_2 (r2 : (Int32 × Sg) → Option (Int64 × Sg)) (v1 : Int32) (sg : Sg) : Option (Int64 × Sg) :=
  (if (sg 3 2) ≤ v1 then some ((-2000000005 : Int64), sg) else bnd2 (fX7_isKept v1 sg) (fun y2 sg3 => (if y2 = 0 then gin v1 12 (some ((sg3 17 v1.toNatClampNeg).toInt64, sg3)) else lt (v1 + (1 : Int32)) (fun x6 => r2 (x6, sg3)))))
set_option maxHeartbeats 4000000 in
set_option maxRecDepth 100000 in
theorem tX7_leastFault_2 (C : Cx p s m args meth c cX7_leastFault 2 RX7 wsX7_leastFault (some .long) D vwCl (tysC T) A true nwL) {ro : Int64} {so : Sg} {r2 : (Int32 × Sg) → Option (Int64 × Sg)} (hr2 : ∀ (v1 : Int32) (sg : Sg), r2 (v1, sg) = some (ro, so) → ∀ (H : Heap) (locs : List Loc) (ls : Array Slot), WS ZC D vwCl T ad sg lg A s.heap H locs → lv_has ls 2 [(0, .ref (ad 6)), (1, .int v1)] → W p l e rmX7_leastFault s m args below meth c H locs 0 0 (MQ below (QL ZC D vwCl T (tysC T) A (fun z => ad = z) ro so lg) args s 0 0 A) (F0 m 2 ls [])) : ∀ (v1 : Int32) (sg : Sg), ∀ (H : Heap) (locs : List Loc) (ls : Array Slot), WS ZC D vwCl T ad sg lg A s.heap H locs → lv_has ls 2 [(0, .ref (ad 6)), (1, .int v1)] → fX7_leastFault_2 r2 v1 sg = some (ro, so) → W p l e rmX7_leastFault s m args below meth c H locs 0 0 (MQ below (QL ZC D vwCl T (tysC T) A (fun z => ad = z) ro so lg) args s 0 0 A) (F0 m 2 ls []) := by
  obtain ⟨⟨hx, hb, hml, hown, hts⟩, hr, hlk, hK, hA, hsp⟩ := id C
  intro v1 sg H locs ls hw hl h
  unfold fX7_leastFault_2 at h
  refine lv_iload_n hx hb dX7_leastFault_2 rfl (lv_at hl 1 rfl) ?_
  refine lv_aload_n hx hb dX7_leastFault_3 rfl (lv_at hl 0 rfl) ?_
  refine r_getR (ci := 7) (C := RX7) (U := TX7) (N := 4) hx hb hts kX7_leastFault_iX7 hown hK hw 6 (by decide) rfl rfl 0 (by decide) 3 rfl (hts _ kX7_leastFault_f21) (fun _ h9 => h9) dX7_leastFault_4 ?_
  refine r_getI (ci := 8) (C := RX8) (U := TX8) (N := 10) hx hb hts kX7_leastFault_iX8 hown hK hw 3 (by decide) rfl rfl 2 (by decide) rfl (hts _ kX7_leastFault_f36) (fun _ h9 => h9) dX7_leastFault_7 ?_
  refine lv_icmp_ge (tgt := 38) hx hb dX7_leastFault_10 (by decide) (fun c1 => ?_) (fun c1 => ?_)
  · replace h := ite_t h c1
    refine lv_ldc2 hx hb hown (hts _ kX7_leastFault_c56) dX7_leastFault_38 ?_
    cases h
    exact r_lret C hw rfl (by decide) (by decide) dX7_leastFault_41
  · replace h := ite_f h c1
    refine lv_aload_n hx hb dX7_leastFault_13 rfl (lv_at hl 0 rfl) ?_
    refine lv_iload_n hx hb dX7_leastFault_14 rfl (lv_at hl 1 rfl) ?_
    obtain ⟨y2, sg3, hq4, h2⟩ := bnd2_some h
    replace h := h2
    clear h2
    refine r_cVi (As := [.int v1]) (rest := []) C hw 6 (by decide) (ci := 7) rfl rfl (mX7_isKept l D T ad lg H.size v1 sg hq4) (cwV 1 hts gX7_leastFault_X7_isKept rfl rfl rfl (by decide +kernel) ⟨Nat.le_of_ble_eq_true rfl, Nat.le_of_ble_eq_true rfl⟩) rfl hl.1 rfl (Nat.le_of_ble_eq_true rfl) dX7_leastFault_15 ⟨Nat.le_of_ble_eq_true rfl, Nat.le_of_ble_eq_true rfl⟩ (fun ad' H locs hp hw => ?_)
    subst hp
    refine W.widen (k := 0) (n := 0) (by decide) (by decide) ?_
    refine lv_if_ne (tgt := 32) hx hb dX7_leastFault_18 (by decide) (fun c5 => ?_) (fun c5 => ?_)
    · replace h := ite_f h c5
      obtain ⟨x6, ex6⟩ : ∃ z : Int32, z = (v1 + (1 : Int32)) := ⟨_, rfl⟩
      replace h := lt_get h x6 ex6
      refine lv_iinc (v := x6) (lv' := [(1, .int x6), (0, .ref (ad 6))]) hx hb dX7_leastFault_32 hl (k := 1) rfl (by rw [ex6]; rfl) (by decide) rfl (fun ls hl => ?_)
      refine lv_goto (tgt := 2) hx hb dX7_leastFault_35 (by decide) ?_
      exact hr2 x6 sg3 h _ _ _ hw (lv_sub hl [1, 0] rfl)
    · replace h := ite_t h c5
      refine lv_aload_n hx hb dX7_leastFault_21 rfl (lv_at hl 0 rfl) ?_
      refine r_getR (ci := 7) (C := RX7) (U := TX7) (N := 4) hx hb hts kX7_leastFault_iX7 hown hK hw 6 (by decide) rfl rfl 0 (by decide) 3 rfl (hts _ kX7_leastFault_f21) (fun _ h9 => h9) dX7_leastFault_22 ?_
      refine r_getR (ci := 8) (C := RX8) (U := TX8) (N := 10) hx hb hts kX7_leastFault_iX8 hown hK hw 3 (by decide) rfl rfl 3 (by decide) 17 rfl (hts _ kX7_leastFault_f43) (fun _ h9 => h9) dX7_leastFault_25 ?_
      refine lv_iload_n hx hb dX7_leastFault_28 rfl (lv_at hl 1 rfl) ?_
      have hi7 := (gin_some h).1
      replace h := (gin_some h).2
      refine r_iald hx hb hK hw 17 0 12 (by decide) rfl rfl rfl hi7 dX7_leastFault_29 ?_
      refine lv_i2l (v := (sg3 17 v1.toNatClampNeg).toInt64) hx hb dX7_leastFault_30 rfl ?_
      cases h
      exact r_lret C hw rfl (by decide) (by decide) dX7_leastFault_31
def LX7_leastFault_2  : (Int32 × Sg) → Option (Int64 × Sg) := loop (fun rec z => fX7_leastFault_2 rec z.1 z.2)
theorem TX7_leastFault_2 (C : Cx p s m args meth c cX7_leastFault 2 RX7 wsX7_leastFault (some .long) D vwCl (tysC T) A true nwL) {ro : Int64} {so : Sg}   : ∀ (v1 : Int32) (sg : Sg), LX7_leastFault_2 (v1, sg) = some (ro, so) → ∀ (H : Heap) (locs : List Loc) (ls : Array Slot), WS ZC D vwCl T ad sg lg A s.heap H locs → lv_has ls 2 [(0, .ref (ad 6)), (1, .int v1)] → W p l e rmX7_leastFault s m args below meth c H locs 0 0 (MQ below (QL ZC D vwCl T (tysC T) A (fun z => ad = z) ro so lg) args s 0 0 A) (F0 m 2 ls []) := by
  have key : ∀ z : (Int32 × Sg), LX7_leastFault_2  z = some (ro, so) → ∀ (H : Heap) (locs : List Loc) (ls : Array Slot), WS ZC D vwCl T ad z.2 lg A s.heap H locs → lv_has ls 2 [(0, .ref (ad 6)), (1, .int z.1)] → W p l e rmX7_leastFault s m args below meth c H locs 0 0 (MQ below (QL ZC D vwCl T (tysC T) A (fun z => ad = z) ro so lg) args s 0 0 A) (F0 m 2 ls []) := by
    intro z h
    unfold LX7_leastFault_2 at h
    exact loop_ind (fun rec z => fX7_leastFault_2 rec z.1 z.2) (y := (ro, so)) (P := fun z => ∀ (H : Heap) (locs : List Loc) (ls : Array Slot), WS ZC D vwCl T ad z.2 lg A s.heap H locs → lv_has ls 2 [(0, .ref (ad 6)), (1, .int z.1)] → W p l e rmX7_leastFault s m args below meth c H locs 0 0 (MQ below (QL ZC D vwCl T (tysC T) A (fun z => ad = z) ro so lg) args s 0 0 A) (F0 m 2 ls [])) (fun rec hrec z h H locs ls hw hl => tX7_leastFault_2 C  (fun v1 sg => hrec (v1, sg)) z.1 z.2 H locs ls hw hl h) z h
  exact fun v1 sg => key (v1, sg)
def fX7_leastFault  (sg : Sg) : Option (Int64 × Sg) :=
  LX7_leastFault_2 ((0 : Int32), sg)
set_option maxHeartbeats 4000000 in
set_option maxRecDepth 100000 in
theorem tX7_leastFault_0 (C : Cx p s m args meth c cX7_leastFault 2 RX7 wsX7_leastFault (some .long) D vwCl (tysC T) A true nwL) {ro : Int64} {so : Sg}   : ∀ (sg : Sg), ∀ (H : Heap) (locs : List Loc) (ls : Array Slot), WS ZC D vwCl T ad sg lg A s.heap H locs → lv_has ls 2 [(0, .ref (ad 6))] → fX7_leastFault sg = some (ro, so) → W p l e rmX7_leastFault s m args below meth c H locs 0 0 (MQ below (QL ZC D vwCl T (tysC T) A (fun z => ad = z) ro so lg) args s 0 0 A) (F0 m 0 ls []) := by
  obtain ⟨⟨hx, hb, hml, hown, hts⟩, hr, hlk, hK, hA, hsp⟩ := id C
  intro sg H locs ls hw hl h
  unfold fX7_leastFault at h
  refine lv_iconst (v := (0 : Int32)) hx hb dX7_leastFault_0 (by decide) ?_
  refine lv_istore_n (lv' := [(1, .int (0 : Int32)), (0, .ref (ad 6))]) hx hb dX7_leastFault_1 rfl hl (by decide) rfl (fun ls hl => ?_)
  exact TX7_leastFault_2 C (0 : Int32) sg h _ _ _ hw (lv_sub hl [1, 0] rfl)
theorem mX7_leastFault (l : Launch) (D : va_G) (T : Nat → ClassId) (ad : Nat → Nat) (lg : Lg) (sz : Nat)   (sg : Sg) {ro : Int64} {so : Sg} (h : fX7_leastFault sg = some (ro, so)) : Met l yX7_leastFault wsX7_leastFault rmX7_leastFault (PreZ ZC D vwCl T (tysC T) ad sg lg true nwL [.ref (ad 6)] sz) (QL ZC D vwCl T (tysC T) (va_A (zwd ZC T ad sg lg) sz) (fun z => ad = z) ro so lg) 0 0 (va_A (zwd ZC T ad sg lg) sz) :=
  metZ [.ref (ad 6)] sz (by decide) rfl (Nat.le_of_ble_eq_true rfl) (fun p e s m below meth c ls C hw hl => tX7_leastFault_0 C sg _ _ _ hw hl h)
-- PeckYard.fault()J
def rmX11_fault : Room := { frames := 4, cells := 0, slots := 0, locals := 87 }
theorem kX11_fault_f51 : Cond.fieldLink RX11 51 "PeckYard" "line" "LPeckYard$Line;" ∈ wsX11_fault := by decide +kernel
theorem kX11_fault_iX11 : ∀ w ∈ u_ws RX11 TX11 9, w ∈ wsX11_fault := by decide +kernel
theorem kX11_fault_f44 : Cond.fieldLink RX11 44 "PeckYard" "hand" "LPeckYard$Hand;" ∈ wsX11_fault := by decide +kernel
theorem kX11_fault_c113 : Cond.constantLong RX11 113 (-2000000002) ∈ wsX11_fault := by decide +kernel
def fX11_fault  (sg : Sg) : Option (Int64 × Sg) :=
  bnd2 (fX7_readFrom sg) (fun y1 sg2 => (if y1 = 0 then some ((-2000000002 : Int64), sg2) else bnd2 (fX7_leastFault sg2) (fun y5 sg6 => some (y5, sg6))))
set_option maxHeartbeats 4000000 in
set_option maxRecDepth 100000 in
theorem tX11_fault_0 (C : Cx p s m args meth c cX11_fault 1 RX11 wsX11_fault (some .long) D vwCl (tysC T) A true nwL) {ro : Int64} {so : Sg}   : ∀ (sg : Sg), ∀ (H : Heap) (locs : List Loc) (ls : Array Slot), WS ZC D vwCl T ad sg lg A s.heap H locs → lv_has ls 1 [(0, .ref (ad 0))] → fX11_fault sg = some (ro, so) → W p l e rmX11_fault s m args below meth c H locs 0 0 (MQ below (QL ZC D vwCl T (tysC T) A (fun z => ad = z) ro so lg) args s 0 0 A) (F0 m 0 ls []) := by
  obtain ⟨⟨hx, hb, hml, hown, hts⟩, hr, hlk, hK, hA, hsp⟩ := id C
  intro sg H locs ls hw hl h
  unfold fX11_fault at h
  refine lv_aload_n hx hb dX11_fault_0 rfl (lv_at hl 0 rfl) ?_
  refine r_getR (ci := 11) (C := RX11) (U := TX11) (N := 9) hx hb hts kX11_fault_iX11 hown hK hw 0 (by decide) rfl rfl 5 (by decide) 6 rfl (hts _ kX11_fault_f51) (fun _ h9 => h9) dX11_fault_1 ?_
  refine lv_aload_n hx hb dX11_fault_4 rfl (lv_at hl 0 rfl) ?_
  refine r_getR (ci := 11) (C := RX11) (U := TX11) (N := 9) hx hb hts kX11_fault_iX11 hown hK hw 0 (by decide) rfl rfl 4 (by decide) 5 rfl (hts _ kX11_fault_f44) (fun _ h9 => h9) dX11_fault_5 ?_
  obtain ⟨y1, sg2, hq3, h2⟩ := bnd2_some h
  replace h := h2
  clear h2
  refine r_cVi (As := [.ref (ad 5)]) (rest := []) C hw 6 (by decide) (ci := 7) rfl rfl (mX7_readFrom l D T ad lg H.size sg hq3) (cwV 1 hts gX11_fault_X7_readFrom rfl rfl rfl (by decide +kernel) ⟨Nat.le_of_ble_eq_true rfl, Nat.le_of_ble_eq_true rfl⟩) rfl hl.1 rfl (Nat.le_of_ble_eq_true rfl) dX11_fault_8 ⟨Nat.le_of_ble_eq_true rfl, Nat.le_of_ble_eq_true rfl⟩ (fun ad' H locs hp hw => ?_)
  subst hp
  refine W.widen (k := 0) (n := 0) (by decide) (by decide) ?_
  refine lv_if_eq (tgt := 24) hx hb dX11_fault_11 (by decide) (fun c4 => ?_) (fun c4 => ?_)
  · replace h := ite_t h c4
    refine lv_ldc2 hx hb hown (hts _ kX11_fault_c113) dX11_fault_24 ?_
    cases h
    exact r_lret C hw rfl (by decide) (by decide) dX11_fault_27
  · replace h := ite_f h c4
    refine lv_aload_n hx hb dX11_fault_14 rfl (lv_at hl 0 rfl) ?_
    refine r_getR (ci := 11) (C := RX11) (U := TX11) (N := 9) hx hb hts kX11_fault_iX11 hown hK hw 0 (by decide) rfl rfl 5 (by decide) 6 rfl (hts _ kX11_fault_f51) (fun _ h9 => h9) dX11_fault_15 ?_
    obtain ⟨y5, sg6, hq7, h2⟩ := bnd2_some h
    replace h := h2
    clear h2
    refine r_cVl (As := []) (rest := []) C hw 6 (by decide) (ci := 7) rfl rfl (mX7_leastFault l D T ad lg H.size sg2 hq7) (cwV 0 hts gX11_fault_X7_leastFault rfl rfl rfl (by decide +kernel) ⟨Nat.le_of_ble_eq_true rfl, Nat.le_of_ble_eq_true rfl⟩) rfl hl.1 rfl (Nat.le_of_ble_eq_true rfl) dX11_fault_18 ⟨Nat.le_of_ble_eq_true rfl, Nat.le_of_ble_eq_true rfl⟩ (fun ad' H locs hp hw => ?_)
    subst hp
    refine W.widen (k := 0) (n := 0) (by decide) (by decide) ?_
    refine lv_goto (tgt := 27) hx hb dX11_fault_21 (by decide) ?_
    cases h
    exact r_lret C hw rfl (by decide) (by decide) dX11_fault_27
theorem mX11_fault (l : Launch) (D : va_G) (T : Nat → ClassId) (ad : Nat → Nat) (lg : Lg) (sz : Nat)   (sg : Sg) {ro : Int64} {so : Sg} (h : fX11_fault sg = some (ro, so)) : Met l yX11_fault wsX11_fault rmX11_fault (PreZ ZC D vwCl T (tysC T) ad sg lg true nwL [.ref (ad 0)] sz) (QL ZC D vwCl T (tysC T) (va_A (zwd ZC T ad sg lg) sz) (fun z => ad = z) ro so lg) 0 0 (va_A (zwd ZC T ad sg lg) sz) :=
  metZ [.ref (ad 0)] sz (by decide) rfl (Nat.le_of_ble_eq_true rfl) (fun p e s m below meth c ls C hw hl => tX11_fault_0 C sg _ _ _ hw hl h)
-- PeckYard$Line.writeTo(LPeckYard$Hand;)V
def rmX7_writeTo : Room := { frames := 1, cells := 0, slots := 0, locals := 21 }
theorem kX7_writeTo_f30 : Cond.fieldLink RX7 30 "PeckYard$Hand" "size" "I" ∈ wsX7_writeTo := by decide +kernel
theorem kX7_writeTo_iX5 : ∀ w ∈ u_ws RX5 TX5 2, w ∈ wsX7_writeTo := by decide +kernel
theorem kX7_writeTo_f21 : Cond.fieldLink RX7 21 "PeckYard$Line" "muster" "LPeckYard$Muster;" ∈ wsX7_writeTo := by decide +kernel
theorem kX7_writeTo_iX7 : ∀ w ∈ u_ws RX7 TX7 4, w ∈ wsX7_writeTo := by decide +kernel
theorem kX7_writeTo_f36 : Cond.fieldLink RX7 36 "PeckYard$Muster" "size" "I" ∈ wsX7_writeTo := by decide +kernel
theorem kX7_writeTo_iX8 : ∀ w ∈ u_ws RX8 TX8 10, w ∈ wsX7_writeTo := by decide +kernel
theorem kX7_writeTo_f43 : Cond.fieldLink RX7 43 "PeckYard$Muster" "hens" "[I" ∈ wsX7_writeTo := by decide +kernel
theorem kX7_writeTo_f9 : Cond.fieldLink RX7 9 "PeckYard$Line" "row" "[I" ∈ wsX7_writeTo := by decide +kernel
def fX7_writeTo_7 (r7 : (Int32 × Sg) → Option (Sg)) (v2 : Int32) (sg : Sg) : Option (Sg) :=
  (if (sg 3 2) ≤ v2 then some sg else gin v2 12 (lt (sg 32 v2.toNatClampNeg) (fun x3 => gin x3 12 (bnd1 (fX5_append (sg 17 x3.toNatClampNeg) sg) (fun sg5 => lt (v2 + (1 : Int32)) (fun x7 => r7 (x7, sg5)))))))
set_option maxHeartbeats 4000000 in
set_option maxRecDepth 100000 in
theorem tX7_writeTo_7 (C : Cx p s m args meth c cX7_writeTo 3 RX7 wsX7_writeTo none D vwCl (tysC T) A true nwL) {so : Sg} {r7 : (Int32 × Sg) → Option (Sg)} (hr7 : ∀ (v2 : Int32) (sg : Sg), r7 (v2, sg) = some so → ∀ (H : Heap) (locs : List Loc) (ls : Array Slot), WS ZC D vwCl T ad sg lg A s.heap H locs → lv_has ls 3 [(0, .ref (ad 6)), (1, .ref (ad 5)), (2, .int v2)] → W p l e rmX7_writeTo s m args below meth c H locs 0 0 (MQ below (QV ZC D vwCl T (tysC T) A (fun z => ad = z) so lg) args s 0 0 A) (F0 m 7 ls [])) : ∀ (v2 : Int32) (sg : Sg), ∀ (H : Heap) (locs : List Loc) (ls : Array Slot), WS ZC D vwCl T ad sg lg A s.heap H locs → lv_has ls 3 [(0, .ref (ad 6)), (1, .ref (ad 5)), (2, .int v2)] → fX7_writeTo_7 r7 v2 sg = some so → W p l e rmX7_writeTo s m args below meth c H locs 0 0 (MQ below (QV ZC D vwCl T (tysC T) A (fun z => ad = z) so lg) args s 0 0 A) (F0 m 7 ls []) := by
  obtain ⟨⟨hx, hb, hml, hown, hts⟩, hr, hlk, hK, hA, hsp⟩ := id C
  intro v2 sg H locs ls hw hl h
  unfold fX7_writeTo_7 at h
  refine lv_iload_n hx hb dX7_writeTo_7 rfl (lv_at hl 2 rfl) ?_
  refine lv_aload_n hx hb dX7_writeTo_8 rfl (lv_at hl 0 rfl) ?_
  refine r_getR (ci := 7) (C := RX7) (U := TX7) (N := 4) hx hb hts kX7_writeTo_iX7 hown hK hw 6 (by decide) rfl rfl 0 (by decide) 3 rfl (hts _ kX7_writeTo_f21) (fun _ h9 => h9) dX7_writeTo_9 ?_
  refine r_getI (ci := 8) (C := RX8) (U := TX8) (N := 10) hx hb hts kX7_writeTo_iX8 hown hK hw 3 (by decide) rfl rfl 2 (by decide) rfl (hts _ kX7_writeTo_f36) (fun _ h9 => h9) dX7_writeTo_12 ?_
  refine lv_icmp_ge (tgt := 42) hx hb dX7_writeTo_15 (by decide) (fun c1 => ?_) (fun c1 => ?_)
  · replace h := ite_t h c1
    cases h
    exact r_vret C hw rfl (by decide) (by decide) dX7_writeTo_42
  · replace h := ite_f h c1
    refine lv_aload_n hx hb dX7_writeTo_18 rfl (lv_at hl 1 rfl) ?_
    refine lv_aload_n hx hb dX7_writeTo_19 rfl (lv_at hl 0 rfl) ?_
    refine r_getR (ci := 7) (C := RX7) (U := TX7) (N := 4) hx hb hts kX7_writeTo_iX7 hown hK hw 6 (by decide) rfl rfl 0 (by decide) 3 rfl (hts _ kX7_writeTo_f21) (fun _ h9 => h9) dX7_writeTo_20 ?_
    refine r_getR (ci := 8) (C := RX8) (U := TX8) (N := 10) hx hb hts kX7_writeTo_iX8 hown hK hw 3 (by decide) rfl rfl 3 (by decide) 17 rfl (hts _ kX7_writeTo_f43) (fun _ h9 => h9) dX7_writeTo_23 ?_
    refine lv_aload_n hx hb dX7_writeTo_26 rfl (lv_at hl 0 rfl) ?_
    refine r_getR (ci := 7) (C := RX7) (U := TX7) (N := 4) hx hb hts kX7_writeTo_iX7 hown hK hw 6 (by decide) rfl rfl 1 (by decide) 32 rfl (hts _ kX7_writeTo_f9) (fun _ h9 => h9) dX7_writeTo_27 ?_
    refine lv_iload_n hx hb dX7_writeTo_30 rfl (lv_at hl 2 rfl) ?_
    have hi2 := (gin_some h).1
    replace h := (gin_some h).2
    refine r_iald hx hb hK hw 32 0 12 (by decide) rfl rfl rfl hi2 dX7_writeTo_31 ?_
    refine lv_topi (fun x3 ex3 => ?_)
    replace h := lt_get h x3 ex3
    have hi4 := (gin_some h).1
    replace h := (gin_some h).2
    refine r_iald hx hb hK hw 17 0 12 (by decide) rfl rfl rfl hi4 dX7_writeTo_32 ?_
    obtain ⟨sg5, hq6, h2⟩ := bnd1_some h
    replace h := h2
    clear h2
    refine r_cVv (As := [.int (sg 17 x3.toNatClampNeg)]) (rest := []) C hw 5 (by decide) (ci := 5) rfl rfl (mX5_append l D T ad lg H.size (sg 17 x3.toNatClampNeg) sg hq6) (cwV 1 hts gX7_writeTo_X5_append rfl rfl rfl (by decide +kernel) ⟨Nat.le_of_ble_eq_true rfl, Nat.le_of_ble_eq_true rfl⟩) rfl hl.1 rfl (Nat.le_of_ble_eq_true rfl) dX7_writeTo_33 ⟨Nat.le_of_ble_eq_true rfl, Nat.le_of_ble_eq_true rfl⟩ (fun ad' H locs hp hw => ?_)
    subst hp
    refine W.widen (k := 0) (n := 0) (by decide) (by decide) ?_
    obtain ⟨x7, ex7⟩ : ∃ z : Int32, z = (v2 + (1 : Int32)) := ⟨_, rfl⟩
    replace h := lt_get h x7 ex7
    refine lv_iinc (v := x7) (lv' := [(2, .int x7), (0, .ref (ad 6)), (1, .ref (ad 5))]) hx hb dX7_writeTo_36 hl (k := 2) rfl (by rw [ex7]; rfl) (by decide) rfl (fun ls hl => ?_)
    refine lv_goto (tgt := 7) hx hb dX7_writeTo_39 (by decide) ?_
    exact hr7 x7 sg5 h _ _ _ hw (lv_sub hl [1, 2, 0] rfl)
def LX7_writeTo_7  : (Int32 × Sg) → Option (Sg) := loop (fun rec z => fX7_writeTo_7 rec z.1 z.2)
theorem TX7_writeTo_7 (C : Cx p s m args meth c cX7_writeTo 3 RX7 wsX7_writeTo none D vwCl (tysC T) A true nwL) {so : Sg}   : ∀ (v2 : Int32) (sg : Sg), LX7_writeTo_7 (v2, sg) = some so → ∀ (H : Heap) (locs : List Loc) (ls : Array Slot), WS ZC D vwCl T ad sg lg A s.heap H locs → lv_has ls 3 [(0, .ref (ad 6)), (1, .ref (ad 5)), (2, .int v2)] → W p l e rmX7_writeTo s m args below meth c H locs 0 0 (MQ below (QV ZC D vwCl T (tysC T) A (fun z => ad = z) so lg) args s 0 0 A) (F0 m 7 ls []) := by
  have key : ∀ z : (Int32 × Sg), LX7_writeTo_7  z = some so → ∀ (H : Heap) (locs : List Loc) (ls : Array Slot), WS ZC D vwCl T ad z.2 lg A s.heap H locs → lv_has ls 3 [(0, .ref (ad 6)), (1, .ref (ad 5)), (2, .int z.1)] → W p l e rmX7_writeTo s m args below meth c H locs 0 0 (MQ below (QV ZC D vwCl T (tysC T) A (fun z => ad = z) so lg) args s 0 0 A) (F0 m 7 ls []) := by
    intro z h
    unfold LX7_writeTo_7 at h
    exact loop_ind (fun rec z => fX7_writeTo_7 rec z.1 z.2) (y := so) (P := fun z => ∀ (H : Heap) (locs : List Loc) (ls : Array Slot), WS ZC D vwCl T ad z.2 lg A s.heap H locs → lv_has ls 3 [(0, .ref (ad 6)), (1, .ref (ad 5)), (2, .int z.1)] → W p l e rmX7_writeTo s m args below meth c H locs 0 0 (MQ below (QV ZC D vwCl T (tysC T) A (fun z => ad = z) so lg) args s 0 0 A) (F0 m 7 ls [])) (fun rec hrec z h H locs ls hw hl => tX7_writeTo_7 C  (fun v2 sg => hrec (v2, sg)) z.1 z.2 H locs ls hw hl h) z h
  exact fun v2 sg => key (v2, sg)
def fX7_writeTo  (sg : Sg) : Option (Sg) :=
  lt (up2 sg 5 0 (0 : Int32)) (fun sg1 => LX7_writeTo_7 ((0 : Int32), sg1))
set_option maxHeartbeats 4000000 in
set_option maxRecDepth 100000 in
theorem tX7_writeTo_0 (C : Cx p s m args meth c cX7_writeTo 3 RX7 wsX7_writeTo none D vwCl (tysC T) A true nwL) {so : Sg}   : ∀ (sg : Sg), ∀ (H : Heap) (locs : List Loc) (ls : Array Slot), WS ZC D vwCl T ad sg lg A s.heap H locs → lv_has ls 3 [(0, .ref (ad 6)), (1, .ref (ad 5))] → fX7_writeTo sg = some so → W p l e rmX7_writeTo s m args below meth c H locs 0 0 (MQ below (QV ZC D vwCl T (tysC T) A (fun z => ad = z) so lg) args s 0 0 A) (F0 m 0 ls []) := by
  obtain ⟨⟨hx, hb, hml, hown, hts⟩, hr, hlk, hK, hA, hsp⟩ := id C
  intro sg H locs ls hw hl h
  unfold fX7_writeTo at h
  refine lv_aload_n hx hb dX7_writeTo_0 rfl (lv_at hl 1 rfl) ?_
  refine lv_iconst (v := (0 : Int32)) hx hb dX7_writeTo_1 (by decide) ?_
  refine r_putI ZC_ok (ci := 5) (C := RX5) (U := TX5) (N := 2) (ty := .int) hx hb hts kX7_writeTo_iX5 tyX5 tyX5_ok nmX5 hown hK hw 5 (by decide) rfl rfl 0 (by decide) rfl (hts _ kX7_writeTo_f30) (fun _ h9 => h9) rfl (by decide +kernel) rfl rfl dX7_writeTo_2 (fun H locs sg1 esg1 hw => ?_)
  replace h := lt_get h sg1 esg1
  refine lv_iconst (v := (0 : Int32)) hx hb dX7_writeTo_5 (by decide) ?_
  refine lv_istore_n (lv' := [(2, .int (0 : Int32)), (0, .ref (ad 6)), (1, .ref (ad 5))]) hx hb dX7_writeTo_6 rfl hl (by decide) rfl (fun ls hl => ?_)
  exact TX7_writeTo_7 C (0 : Int32) sg1 h _ _ _ hw (lv_sub hl [1, 2, 0] rfl)
theorem mX7_writeTo (l : Launch) (D : va_G) (T : Nat → ClassId) (ad : Nat → Nat) (lg : Lg) (sz : Nat)   (sg : Sg) {so : Sg} (h : fX7_writeTo sg = some so) : Met l yX7_writeTo wsX7_writeTo rmX7_writeTo (PreZ ZC D vwCl T (tysC T) ad sg lg true nwL [.ref (ad 6), .ref (ad 5)] sz) (QV ZC D vwCl T (tysC T) (va_A (zwd ZC T ad sg lg) sz) (fun z => ad = z) so lg) 0 0 (va_A (zwd ZC T ad sg lg) sz) :=
  metZ [.ref (ad 6), .ref (ad 5)] sz (by decide) rfl (Nat.le_of_ble_eq_true rfl) (fun p e s m below meth c ls C hw hl => tX7_writeTo_0 C sg _ _ _ hw hl h)
-- PeckYard.shift([III)V
def rmX11_shift_c32 : Room := { frames := 0, cells := 0, slots := 0, locals := 0 }
def fX11_shift_c32_32 (r32 : (Int32 × Int32 × Int32 × Sg) → Option (Sg)) (v2 : Int32) (v3 : Int32) (v4 : Int32) (sg : Sg) : Option (Sg) :=
  (if v4 ≤ v2 then gin v2 12 (lt (up2 sg 32 v2.toNatClampNeg v3) (fun sg3 => some sg3)) else lt (v4 - (1 : Int32)) (fun x4 => gin x4 12 (lt (sg 32 x4.toNatClampNeg) (fun x6 => gin v4 12 (lt (up2 sg 32 v4.toNatClampNeg x6) (fun sg8 => lt (v4 + (-1 : Int32)) (fun x9 => r32 (v2, v3, x9, sg8))))))))
set_option maxHeartbeats 4000000 in
set_option maxRecDepth 100000 in
theorem tX11_shift_c32_32 (C : Cx p s m args meth c cX11_shift 5 RX11 wsX11_shift none D vwCl (tysC T) A true nwL) {so : Sg} {r32 : (Int32 × Int32 × Int32 × Sg) → Option (Sg)} (hr32 : ∀ (v2 : Int32) (v3 : Int32) (v4 : Int32) (sg : Sg), r32 (v2, v3, v4, sg) = some so → ∀ (H : Heap) (locs : List Loc) (ls : Array Slot), WS ZC D vwCl T ad sg lg A s.heap H locs → lv_has ls 5 [(0, .ref (ad 32)), (2, .int v2), (3, .int v3), (4, .int v4)] → W p l e rmX11_shift_c32 s m args below meth c H locs 0 0 (MQ below (QV ZC D vwCl T (tysC T) A (fun z => ad = z) so lg) args s 0 0 A) (F0 m 32 ls [])) : ∀ (v2 : Int32) (v3 : Int32) (v4 : Int32) (sg : Sg), ∀ (H : Heap) (locs : List Loc) (ls : Array Slot), WS ZC D vwCl T ad sg lg A s.heap H locs → lv_has ls 5 [(0, .ref (ad 32)), (2, .int v2), (3, .int v3), (4, .int v4)] → fX11_shift_c32_32 r32 v2 v3 v4 sg = some so → W p l e rmX11_shift_c32 s m args below meth c H locs 0 0 (MQ below (QV ZC D vwCl T (tysC T) A (fun z => ad = z) so lg) args s 0 0 A) (F0 m 32 ls []) := by
  obtain ⟨⟨hx, hb, hml, hown, hts⟩, hr, hlk, hK, hA, hsp⟩ := id C
  intro v2 v3 v4 sg H locs ls hw hl h
  unfold fX11_shift_c32_32 at h
  refine lv_iload hx hb dX11_shift_32 (lv_at hl 3 rfl) ?_
  refine lv_iload_n hx hb dX11_shift_34 rfl (lv_at hl 1 rfl) ?_
  refine lv_icmp_le (tgt := 54) hx hb dX11_shift_35 (by decide) (fun c1 => ?_) (fun c1 => ?_)
  · replace h := ite_t h c1
    refine lv_aload_n hx hb dX11_shift_54 rfl (lv_at hl 0 rfl) ?_
    refine lv_iload_n hx hb dX11_shift_55 rfl (lv_at hl 1 rfl) ?_
    refine lv_iload_n hx hb dX11_shift_56 rfl (lv_at hl 2 rfl) ?_
    have hi2 := (gin_some h).1
    replace h := (gin_some h).2
    refine r_iast ZC_ok hx hb hK hw 32 0 12 (by decide) rfl rfl rfl hi2 dX11_shift_57 (fun H locs sg3 esg3 hw => ?_)
    replace h := lt_get h sg3 esg3
    cases h
    exact r_vret C hw rfl (by decide) (by decide) dX11_shift_58
  · replace h := ite_f h c1
    refine lv_aload_n hx hb dX11_shift_38 rfl (lv_at hl 0 rfl) ?_
    refine lv_iload hx hb dX11_shift_39 (lv_at hl 3 rfl) ?_
    refine lv_aload_n hx hb dX11_shift_41 rfl (lv_at hl 0 rfl) ?_
    refine lv_iload hx hb dX11_shift_42 (lv_at hl 3 rfl) ?_
    refine lv_iconst (v := (1 : Int32)) hx hb dX11_shift_44 (by decide) ?_
    refine lv_isub hx hb dX11_shift_45 ?_
    refine lv_topi (fun x4 ex4 => ?_)
    replace h := lt_get h x4 ex4
    have hi5 := (gin_some h).1
    replace h := (gin_some h).2
    refine r_iald hx hb hK hw 32 0 12 (by decide) rfl rfl rfl hi5 dX11_shift_46 ?_
    refine lv_topi (fun x6 ex6 => ?_)
    replace h := lt_get h x6 ex6
    have hi7 := (gin_some h).1
    replace h := (gin_some h).2
    refine r_iast ZC_ok hx hb hK hw 32 0 12 (by decide) rfl rfl rfl hi7 dX11_shift_47 (fun H locs sg8 esg8 hw => ?_)
    replace h := lt_get h sg8 esg8
    obtain ⟨x9, ex9⟩ : ∃ z : Int32, z = (v4 + (-1 : Int32)) := ⟨_, rfl⟩
    replace h := lt_get h x9 ex9
    refine lv_iinc (v := x9) (lv' := [(4, .int x9), (0, .ref (ad 32)), (2, .int v2), (3, .int v3)]) hx hb dX11_shift_48 hl (k := 3) rfl (by rw [ex9]; rfl) (by decide) rfl (fun ls hl => ?_)
    refine lv_goto (tgt := 32) hx hb dX11_shift_51 (by decide) ?_
    exact hr32 v2 v3 x9 sg8 h _ _ _ hw (lv_sub hl [1, 2, 3, 0] rfl)
def LX11_shift_c32_32  : (Int32 × Int32 × Int32 × Sg) → Option (Sg) := loop (fun rec z => fX11_shift_c32_32 rec z.1 z.2.1 z.2.2.1 z.2.2.2)
theorem TX11_shift_c32_32 (C : Cx p s m args meth c cX11_shift 5 RX11 wsX11_shift none D vwCl (tysC T) A true nwL) {so : Sg}   : ∀ (v2 : Int32) (v3 : Int32) (v4 : Int32) (sg : Sg), LX11_shift_c32_32 (v2, v3, v4, sg) = some so → ∀ (H : Heap) (locs : List Loc) (ls : Array Slot), WS ZC D vwCl T ad sg lg A s.heap H locs → lv_has ls 5 [(0, .ref (ad 32)), (2, .int v2), (3, .int v3), (4, .int v4)] → W p l e rmX11_shift_c32 s m args below meth c H locs 0 0 (MQ below (QV ZC D vwCl T (tysC T) A (fun z => ad = z) so lg) args s 0 0 A) (F0 m 32 ls []) := by
  have key : ∀ z : (Int32 × Int32 × Int32 × Sg), LX11_shift_c32_32  z = some so → ∀ (H : Heap) (locs : List Loc) (ls : Array Slot), WS ZC D vwCl T ad z.2.2.2 lg A s.heap H locs → lv_has ls 5 [(0, .ref (ad 32)), (2, .int z.1), (3, .int z.2.1), (4, .int z.2.2.1)] → W p l e rmX11_shift_c32 s m args below meth c H locs 0 0 (MQ below (QV ZC D vwCl T (tysC T) A (fun z => ad = z) so lg) args s 0 0 A) (F0 m 32 ls []) := by
    intro z h
    unfold LX11_shift_c32_32 at h
    exact loop_ind (fun rec z => fX11_shift_c32_32 rec z.1 z.2.1 z.2.2.1 z.2.2.2) (y := so) (P := fun z => ∀ (H : Heap) (locs : List Loc) (ls : Array Slot), WS ZC D vwCl T ad z.2.2.2 lg A s.heap H locs → lv_has ls 5 [(0, .ref (ad 32)), (2, .int z.1), (3, .int z.2.1), (4, .int z.2.2.1)] → W p l e rmX11_shift_c32 s m args below meth c H locs 0 0 (MQ below (QV ZC D vwCl T (tysC T) A (fun z => ad = z) so lg) args s 0 0 A) (F0 m 32 ls [])) (fun rec hrec z h H locs ls hw hl => tX11_shift_c32_32 C  (fun v2 v3 v4 sg => hrec (v2, v3, v4, sg)) z.1 z.2.1 z.2.2.1 z.2.2.2 H locs ls hw hl h) z h
  exact fun v2 v3 v4 sg => key (v2, v3, v4, sg)
def fX11_shift_c32_7 (r7 : (Int32 × Int32 × Int32 × Int32 × Sg) → Option (Sg)) (v1 : Int32) (v2 : Int32) (v3 : Int32) (v4 : Int32) (sg : Sg) : Option (Sg) :=
  (if v2 ≤ v4 then LX11_shift_c32_32 (v2, v3, v1, sg) else lt (v4 + (1 : Int32)) (fun x2 => gin x2 12 (lt (sg 32 x2.toNatClampNeg) (fun x4 => gin v4 12 (lt (up2 sg 32 v4.toNatClampNeg x4) (fun sg6 => lt (v4 + (1 : Int32)) (fun x7 => r7 (v1, v2, v3, x7, sg6))))))))
set_option maxHeartbeats 4000000 in
set_option maxRecDepth 100000 in
theorem tX11_shift_c32_7 (C : Cx p s m args meth c cX11_shift 5 RX11 wsX11_shift none D vwCl (tysC T) A true nwL) {so : Sg} {r7 : (Int32 × Int32 × Int32 × Int32 × Sg) → Option (Sg)} (hr7 : ∀ (v1 : Int32) (v2 : Int32) (v3 : Int32) (v4 : Int32) (sg : Sg), r7 (v1, v2, v3, v4, sg) = some so → ∀ (H : Heap) (locs : List Loc) (ls : Array Slot), WS ZC D vwCl T ad sg lg A s.heap H locs → lv_has ls 5 [(0, .ref (ad 32)), (1, .int v1), (2, .int v2), (3, .int v3), (4, .int v4)] → W p l e rmX11_shift_c32 s m args below meth c H locs 0 0 (MQ below (QV ZC D vwCl T (tysC T) A (fun z => ad = z) so lg) args s 0 0 A) (F0 m 7 ls [])) : ∀ (v1 : Int32) (v2 : Int32) (v3 : Int32) (v4 : Int32) (sg : Sg), ∀ (H : Heap) (locs : List Loc) (ls : Array Slot), WS ZC D vwCl T ad sg lg A s.heap H locs → lv_has ls 5 [(0, .ref (ad 32)), (1, .int v1), (2, .int v2), (3, .int v3), (4, .int v4)] → fX11_shift_c32_7 r7 v1 v2 v3 v4 sg = some so → W p l e rmX11_shift_c32 s m args below meth c H locs 0 0 (MQ below (QV ZC D vwCl T (tysC T) A (fun z => ad = z) so lg) args s 0 0 A) (F0 m 7 ls []) := by
  obtain ⟨⟨hx, hb, hml, hown, hts⟩, hr, hlk, hK, hA, hsp⟩ := id C
  intro v1 v2 v3 v4 sg H locs ls hw hl h
  unfold fX11_shift_c32_7 at h
  refine lv_iload hx hb dX11_shift_7 (lv_at hl 4 rfl) ?_
  refine lv_iload_n hx hb dX11_shift_9 rfl (lv_at hl 2 rfl) ?_
  refine lv_icmp_ge (tgt := 29) hx hb dX11_shift_10 (by decide) (fun c1 => ?_) (fun c1 => ?_)
  · replace h := ite_t h c1
    refine lv_iload_n hx hb dX11_shift_29 rfl (lv_at hl 1 rfl) ?_
    refine lv_istore (lv' := [(4, .int v1), (0, .ref (ad 32)), (1, .int v1), (2, .int v2), (3, .int v3)]) hx hb dX11_shift_30 hl (by decide) rfl (fun ls hl => ?_)
    exact TX11_shift_c32_32 C v2 v3 v1 sg h _ _ _ hw (lv_sub hl [1, 3, 4, 0] rfl)
  · replace h := ite_f h c1
    refine lv_aload_n hx hb dX11_shift_13 rfl (lv_at hl 0 rfl) ?_
    refine lv_iload hx hb dX11_shift_14 (lv_at hl 4 rfl) ?_
    refine lv_aload_n hx hb dX11_shift_16 rfl (lv_at hl 0 rfl) ?_
    refine lv_iload hx hb dX11_shift_17 (lv_at hl 4 rfl) ?_
    refine lv_iconst (v := (1 : Int32)) hx hb dX11_shift_19 (by decide) ?_
    refine lv_iadd hx hb dX11_shift_20 ?_
    refine lv_topi (fun x2 ex2 => ?_)
    replace h := lt_get h x2 ex2
    have hi3 := (gin_some h).1
    replace h := (gin_some h).2
    refine r_iald hx hb hK hw 32 0 12 (by decide) rfl rfl rfl hi3 dX11_shift_21 ?_
    refine lv_topi (fun x4 ex4 => ?_)
    replace h := lt_get h x4 ex4
    have hi5 := (gin_some h).1
    replace h := (gin_some h).2
    refine r_iast ZC_ok hx hb hK hw 32 0 12 (by decide) rfl rfl rfl hi5 dX11_shift_22 (fun H locs sg6 esg6 hw => ?_)
    replace h := lt_get h sg6 esg6
    obtain ⟨x7, ex7⟩ : ∃ z : Int32, z = (v4 + (1 : Int32)) := ⟨_, rfl⟩
    replace h := lt_get h x7 ex7
    refine lv_iinc (v := x7) (lv' := [(4, .int x7), (0, .ref (ad 32)), (1, .int v1), (2, .int v2), (3, .int v3)]) hx hb dX11_shift_23 hl (k := 4) rfl (by rw [ex7]; rfl) (by decide) rfl (fun ls hl => ?_)
    refine lv_goto (tgt := 7) hx hb dX11_shift_26 (by decide) ?_
    exact hr7 v1 v2 v3 x7 sg6 h _ _ _ hw (lv_sub hl [1, 2, 3, 4, 0] rfl)
def LX11_shift_c32_7  : (Int32 × Int32 × Int32 × Int32 × Sg) → Option (Sg) := loop (fun rec z => fX11_shift_c32_7 rec z.1 z.2.1 z.2.2.1 z.2.2.2.1 z.2.2.2.2)
theorem TX11_shift_c32_7 (C : Cx p s m args meth c cX11_shift 5 RX11 wsX11_shift none D vwCl (tysC T) A true nwL) {so : Sg}   : ∀ (v1 : Int32) (v2 : Int32) (v3 : Int32) (v4 : Int32) (sg : Sg), LX11_shift_c32_7 (v1, v2, v3, v4, sg) = some so → ∀ (H : Heap) (locs : List Loc) (ls : Array Slot), WS ZC D vwCl T ad sg lg A s.heap H locs → lv_has ls 5 [(0, .ref (ad 32)), (1, .int v1), (2, .int v2), (3, .int v3), (4, .int v4)] → W p l e rmX11_shift_c32 s m args below meth c H locs 0 0 (MQ below (QV ZC D vwCl T (tysC T) A (fun z => ad = z) so lg) args s 0 0 A) (F0 m 7 ls []) := by
  have key : ∀ z : (Int32 × Int32 × Int32 × Int32 × Sg), LX11_shift_c32_7  z = some so → ∀ (H : Heap) (locs : List Loc) (ls : Array Slot), WS ZC D vwCl T ad z.2.2.2.2 lg A s.heap H locs → lv_has ls 5 [(0, .ref (ad 32)), (1, .int z.1), (2, .int z.2.1), (3, .int z.2.2.1), (4, .int z.2.2.2.1)] → W p l e rmX11_shift_c32 s m args below meth c H locs 0 0 (MQ below (QV ZC D vwCl T (tysC T) A (fun z => ad = z) so lg) args s 0 0 A) (F0 m 7 ls []) := by
    intro z h
    unfold LX11_shift_c32_7 at h
    exact loop_ind (fun rec z => fX11_shift_c32_7 rec z.1 z.2.1 z.2.2.1 z.2.2.2.1 z.2.2.2.2) (y := so) (P := fun z => ∀ (H : Heap) (locs : List Loc) (ls : Array Slot), WS ZC D vwCl T ad z.2.2.2.2 lg A s.heap H locs → lv_has ls 5 [(0, .ref (ad 32)), (1, .int z.1), (2, .int z.2.1), (3, .int z.2.2.1), (4, .int z.2.2.2.1)] → W p l e rmX11_shift_c32 s m args below meth c H locs 0 0 (MQ below (QV ZC D vwCl T (tysC T) A (fun z => ad = z) so lg) args s 0 0 A) (F0 m 7 ls [])) (fun rec hrec z h H locs ls hw hl => tX11_shift_c32_7 C  (fun v1 v2 v3 v4 sg => hrec (v1, v2, v3, v4, sg)) z.1 z.2.1 z.2.2.1 z.2.2.2.1 z.2.2.2.2 H locs ls hw hl h) z h
  exact fun v1 v2 v3 v4 sg => key (v1, v2, v3, v4, sg)
def fX11_shift_c32  (v1 : Int32) (v2 : Int32) (sg : Sg) : Option (Sg) :=
  gin v1 12 (lt (sg 32 v1.toNatClampNeg) (fun x2 => LX11_shift_c32_7 (v1, v2, x2, v1, sg)))
set_option maxHeartbeats 4000000 in
set_option maxRecDepth 100000 in
theorem tX11_shift_c32_0 (C : Cx p s m args meth c cX11_shift 5 RX11 wsX11_shift none D vwCl (tysC T) A true nwL) {so : Sg}   : ∀ (v1 : Int32) (v2 : Int32) (sg : Sg), ∀ (H : Heap) (locs : List Loc) (ls : Array Slot), WS ZC D vwCl T ad sg lg A s.heap H locs → lv_has ls 5 [(0, .ref (ad 32)), (1, .int v1), (2, .int v2)] → fX11_shift_c32 v1 v2 sg = some so → W p l e rmX11_shift_c32 s m args below meth c H locs 0 0 (MQ below (QV ZC D vwCl T (tysC T) A (fun z => ad = z) so lg) args s 0 0 A) (F0 m 0 ls []) := by
  obtain ⟨⟨hx, hb, hml, hown, hts⟩, hr, hlk, hK, hA, hsp⟩ := id C
  intro v1 v2 sg H locs ls hw hl h
  unfold fX11_shift_c32 at h
  refine lv_aload_n hx hb dX11_shift_0 rfl (lv_at hl 0 rfl) ?_
  refine lv_iload_n hx hb dX11_shift_1 rfl (lv_at hl 1 rfl) ?_
  have hi1 := (gin_some h).1
  replace h := (gin_some h).2
  refine r_iald hx hb hK hw 32 0 12 (by decide) rfl rfl rfl hi1 dX11_shift_2 ?_
  refine lv_topi (fun x2 ex2 => ?_)
  replace h := lt_get h x2 ex2
  refine lv_istore_n (lv' := [(3, .int x2), (0, .ref (ad 32)), (1, .int v1), (2, .int v2)]) hx hb dX11_shift_3 rfl hl (by decide) rfl (fun ls hl => ?_)
  refine lv_iload_n hx hb dX11_shift_4 rfl (lv_at hl 2 rfl) ?_
  refine lv_istore (lv' := [(4, .int v1), (3, .int x2), (0, .ref (ad 32)), (1, .int v1), (2, .int v2)]) hx hb dX11_shift_5 hl (by decide) rfl (fun ls hl => ?_)
  exact TX11_shift_c32_7 C v1 v2 x2 v1 sg h _ _ _ hw (lv_sub hl [2, 3, 4, 1, 0] rfl)
theorem mX11_shift_c32 (l : Launch) (D : va_G) (T : Nat → ClassId) (ad : Nat → Nat) (lg : Lg) (sz : Nat)   (v1 : Int32) (v2 : Int32) (sg : Sg) {so : Sg} (h : fX11_shift_c32 v1 v2 sg = some so) : Met l yX11_shift wsX11_shift rmX11_shift_c32 (PreZ ZC D vwCl T (tysC T) ad sg lg true nwL [.ref (ad 32), .int v1, .int v2] sz) (QV ZC D vwCl T (tysC T) (va_A (zwd ZC T ad sg lg) sz) (fun z => ad = z) so lg) 0 0 (va_A (zwd ZC T ad sg lg) sz) :=
  metZ [.ref (ad 32), .int v1, .int v2] sz (by decide) rfl (Nat.le_of_ble_eq_true rfl) (fun p e s m below meth c ls C hw hl => tX11_shift_c32_0 C v1 v2 sg _ _ _ hw hl h)
end ZC
