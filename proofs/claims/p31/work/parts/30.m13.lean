section ZM
variable {p : Program} {l : Launch} {e : Env} {s : State} {m : MethodId} {args : Array Value} {below : List Frame} {meth : Method} {c : Code} {D : va_G} {T : Nat → ClassId} {A : Nat → Prop} {ad a : Nat → Nat}
-- PeckYardModel.ring(II)J
def rmX12_ring : Room := { frames := 0, cells := 0, slots := 0, locals := 0 }
theorem kX12_ring_c72 : Cond.constantLong RX12 72 (-2000000001) ∈ wsX12_ring := by decide +kernel
theorem kX12_ring_f212 : Cond.fieldLink RX12 212 "PeckYardModel" "ringCount" "I" ∈ wsX12_ring := by decide +kernel
theorem kX12_ring_iX12 : ∀ w ∈ u_ws RX12 TX12 18, w ∈ wsX12_ring := by decide +kernel
theorem kX12_ring_c163 : Cond.constantLong RX12 163 (2) ∈ wsX12_ring := by decide +kernel
theorem kX12_ring_f46 : Cond.fieldLink RX12 46 "PeckYardModel" "rings" "[J" ∈ wsX12_ring := by decide +kernel
theorem kX12_ring_c112 : Cond.constantLong RX12 112 (-2000000005) ∈ wsX12_ring := by decide +kernel
def fX12_ring  (v1 : Int32) (v2 : Int32) (sg : Sg) (lg : Lg) : Option (Int64 × Sg × Lg) :=
  (if v1 < 0 then some ((-2000000001 : Int64), sg, lg) else (if 0 ≤ v2 then (if v1 < (sg 0 17) then lt (((14 : Int32) * v1) + (1 : Int32)) (fun x4 => gin x4 1960 ((if ((2 : Int64) + (lg 12 x4.toNatClampNeg)) ≤ v2.toInt64 then some ((-2000000005 : Int64), sg, lg) else lt (((14 : Int32) * v1) + v2) (fun x7 => gin x7 1960 (some ((lg 12 x7.toNatClampNeg), sg, lg)))))) else some ((-2000000005 : Int64), sg, lg)) else some ((-2000000001 : Int64), sg, lg)))
set_option maxHeartbeats 4000000 in
set_option maxRecDepth 100000 in
theorem tX12_ring_0 (C : Cx p s m args meth c cX12_ring 3 RX12 wsX12_ring (some .long) D vwCl (tysM T) A false []) {ro : Int64} {so : Sg} {lo : Lg}   : ∀ (v1 : Int32) (v2 : Int32) (sg : Sg) (lg : Lg), ∀ (H : Heap) (locs : List Loc) (ls : Array Slot), WS ZM D vwCl T ad sg lg A s.heap H locs → lv_has ls 3 [(0, .ref (ad 0)), (1, .int v1), (2, .int v2)] → fX12_ring v1 v2 sg lg = some (ro, so, lo) → W p l e rmX12_ring s m args below meth c H locs 0 0 (MQ below (QL ZM D vwCl T (tysM T) A (fun z => ad = z) ro so lo) args s 0 0 A) (F0 m 0 ls []) := by
  obtain ⟨⟨hx, hb, hml, hown, hts⟩, hr, hlk, hK, hA, hsp⟩ := id C
  intro v1 v2 sg lg H locs ls hw hl h
  unfold fX12_ring at h
  refine lv_iload_n hx hb dX12_ring_0 rfl (lv_at hl 1 rfl) ?_
  refine lv_if_lt (tgt := 8) hx hb dX12_ring_1 (by decide) (fun c1 => ?_) (fun c1 => ?_)
  · replace h := ite_t h c1
    refine lv_ldc2 hx hb hown (hts _ kX12_ring_c72) dX12_ring_8 ?_
    cases h
    exact r_lret C hw rfl (by decide) (by decide) dX12_ring_11
  · replace h := ite_f h c1
    refine lv_iload_n hx hb dX12_ring_4 rfl (lv_at hl 2 rfl) ?_
    refine lv_if_ge (tgt := 12) hx hb dX12_ring_5 (by decide) (fun c2 => ?_) (fun c2 => ?_)
    · replace h := ite_t h c2
      refine lv_iload_n hx hb dX12_ring_12 rfl (lv_at hl 1 rfl) ?_
      refine lv_aload_n hx hb dX12_ring_13 rfl (lv_at hl 0 rfl) ?_
      refine r_getI (ci := 12) (C := RX12) (U := TX12) (N := 18) hx hb hts kX12_ring_iX12 hown hK hw 0 (by decide) rfl rfl 17 (by decide) rfl (hts _ kX12_ring_f212) (fun _ h9 => h9) dX12_ring_14 ?_
      refine lv_icmp_lt (tgt := 24) hx hb dX12_ring_17 (by decide) (fun c3 => ?_) (fun c3 => ?_)
      · replace h := ite_t h c3
        refine lv_iload_n hx hb dX12_ring_24 rfl (lv_at hl 2 rfl) ?_
        refine lv_i2l (v := v2.toInt64) hx hb dX12_ring_25 rfl ?_
        refine lv_ldc2 hx hb hown (hts _ kX12_ring_c163) dX12_ring_26 ?_
        refine lv_aload_n hx hb dX12_ring_29 rfl (lv_at hl 0 rfl) ?_
        refine r_getR (ci := 12) (C := RX12) (U := TX12) (N := 18) hx hb hts kX12_ring_iX12 hown hK hw 0 (by decide) rfl rfl 16 (by decide) 12 rfl (hts _ kX12_ring_f46) (fun _ h9 => h9) dX12_ring_30 ?_
        refine lv_bipush (v := (14 : Int32)) hx hb dX12_ring_33 (by decide) ?_
        refine lv_iload_n hx hb dX12_ring_35 rfl (lv_at hl 1 rfl) ?_
        refine lv_imul hx hb dX12_ring_36 ?_
        refine lv_iconst (v := (1 : Int32)) hx hb dX12_ring_37 (by decide) ?_
        refine lv_iadd hx hb dX12_ring_38 ?_
        refine lv_topi (fun x4 ex4 => ?_)
        replace h := lt_get h x4 ex4
        have hi5 := (gin_some h).1
        replace h := (gin_some h).2
        refine r_lald hx hb hK hw 12 2 1960 (by decide) rfl rfl rfl hi5 dX12_ring_39 ?_
        refine lv_ladd hx hb dX12_ring_40 ?_
        refine W.lcmp hx hb dX12_ring_41 ?_
        refine lv_if_ge (tgt := 59) hx hb dX12_ring_42 (by decide) (fun c6 => ?_) (fun c6 => ?_)
        · replace h := ite_t h ((lg_cmp_ge _ _).mp c6)
          refine lv_ldc2 hx hb hown (hts _ kX12_ring_c112) dX12_ring_59 ?_
          cases h
          exact r_lret C hw rfl (by decide) (by decide) dX12_ring_62
        · replace h := ite_f h (fun z => c6 ((lg_cmp_ge _ _).mpr z))
          refine lv_aload_n hx hb dX12_ring_45 rfl (lv_at hl 0 rfl) ?_
          refine r_getR (ci := 12) (C := RX12) (U := TX12) (N := 18) hx hb hts kX12_ring_iX12 hown hK hw 0 (by decide) rfl rfl 16 (by decide) 12 rfl (hts _ kX12_ring_f46) (fun _ h9 => h9) dX12_ring_46 ?_
          refine lv_bipush (v := (14 : Int32)) hx hb dX12_ring_49 (by decide) ?_
          refine lv_iload_n hx hb dX12_ring_51 rfl (lv_at hl 1 rfl) ?_
          refine lv_imul hx hb dX12_ring_52 ?_
          refine lv_iload_n hx hb dX12_ring_53 rfl (lv_at hl 2 rfl) ?_
          refine lv_iadd hx hb dX12_ring_54 ?_
          refine lv_topi (fun x7 ex7 => ?_)
          replace h := lt_get h x7 ex7
          have hi8 := (gin_some h).1
          replace h := (gin_some h).2
          refine r_lald hx hb hK hw 12 2 1960 (by decide) rfl rfl rfl hi8 dX12_ring_55 ?_
          refine lv_goto (tgt := 62) hx hb dX12_ring_56 (by decide) ?_
          cases h
          exact r_lret C hw rfl (by decide) (by decide) dX12_ring_62
      · replace h := ite_f h c3
        refine lv_ldc2 hx hb hown (hts _ kX12_ring_c112) dX12_ring_20 ?_
        cases h
        exact r_lret C hw rfl (by decide) (by decide) dX12_ring_23
    · replace h := ite_f h c2
      refine lv_ldc2 hx hb hown (hts _ kX12_ring_c72) dX12_ring_8 ?_
      cases h
      exact r_lret C hw rfl (by decide) (by decide) dX12_ring_11
theorem mX12_ring (l : Launch) (D : va_G) (T : Nat → ClassId) (ad : Nat → Nat)  (sz : Nat)   (v1 : Int32) (v2 : Int32) (sg : Sg) (lg : Lg) {ro : Int64} {so : Sg} {lo : Lg} (h : fX12_ring v1 v2 sg lg = some (ro, so, lo)) : Met l yX12_ring wsX12_ring rmX12_ring (PreZ ZM D vwCl T (tysM T) ad sg lg false [] [.ref (ad 0), .int v1, .int v2] sz) (QL ZM D vwCl T (tysM T) (va_A (zwd ZM T ad sg lg) sz) (fun z => ad = z) ro so lo) 0 0 (va_A (zwd ZM T ad sg lg) sz) :=
  metZ [.ref (ad 0), .int v1, .int v2] sz (by decide) rfl (Nat.le_of_ble_eq_true rfl) (fun p e s m below meth c ls C hw hl => tX12_ring_0 C v1 v2 sg lg _ _ _ hw hl h)
-- PeckYardModel.count(I)J
def rmX12_count : Room := { frames := 3, cells := 0, slots := 0, locals := 67 }
theorem kX12_count_f153 : Cond.fieldLink RX12 153 "PeckYardModel" "inHand" "I" ∈ wsX12_count := by decide +kernel
theorem kX12_count_iX12 : ∀ w ∈ u_ws RX12 TX12 18, w ∈ wsX12_count := by decide +kernel
theorem kX12_count_f49 : Cond.fieldLink RX12 49 "PeckYardModel" "kept" "I" ∈ wsX12_count := by decide +kernel
theorem kX12_count_f212 : Cond.fieldLink RX12 212 "PeckYardModel" "ringCount" "I" ∈ wsX12_count := by decide +kernel
theorem kX12_count_c72 : Cond.constantLong RX12 72 (-2000000001) ∈ wsX12_count := by decide +kernel
def fX12_count_77 (r53 : (Int64 × Int32 × Sg × Lg) → Option (Int64 × Sg × Lg)) (v4 : Int32) (w0 : Int64) (w1 : Int64) (sg : Sg) (lg : Lg) : Option (Int64 × Sg × Lg) :=
  lt (w1 + w0) (fun x1 => lt (v4 + (1 : Int32)) (fun x2 => r53 (x1, x2, sg, lg)))
set_option maxHeartbeats 4000000 in
set_option maxRecDepth 100000 in
theorem tX12_count_77 (C : Cx p s m args meth c cX12_count 5 RX12 wsX12_count (some .long) D vwCl (tysM T) A false []) {ro : Int64} {so : Sg} {lo : Lg} {r53 : (Int64 × Int32 × Sg × Lg) → Option (Int64 × Sg × Lg)} (hr53 : ∀ (v2 : Int64) (v4 : Int32) (sg : Sg) (lg : Lg), r53 (v2, v4, sg, lg) = some (ro, so, lo) → ∀ (H : Heap) (locs : List Loc) (ls : Array Slot), WS ZM D vwCl T ad sg lg A s.heap H locs → lv_has ls 5 [(0, .ref (ad 0)), (2, .long v2), (4, .int v4)] → W p l e rmX12_count s m args below meth c H locs 0 0 (MQ below (QL ZM D vwCl T (tysM T) A (fun z => ad = z) ro so lo) args s 0 0 A) (F0 m 53 ls [])) : ∀ (v4 : Int32) (w0 : Int64) (w1 : Int64) (sg : Sg) (lg : Lg), ∀ (H : Heap) (locs : List Loc) (ls : Array Slot), WS ZM D vwCl T ad sg lg A s.heap H locs → lv_has ls 5 [(0, .ref (ad 0)), (4, .int v4)] → fX12_count_77 r53 v4 w0 w1 sg lg = some (ro, so, lo) → W p l e rmX12_count s m args below meth c H locs 0 0 (MQ below (QL ZM D vwCl T (tysM T) A (fun z => ad = z) ro so lo) args s 0 0 A) (F0 m 77 ls [.long w0, .long w1]) := by
  obtain ⟨⟨hx, hb, hml, hown, hts⟩, hr, hlk, hK, hA, hsp⟩ := id C
  intro v4 w0 w1 sg lg H locs ls hw hl h
  unfold fX12_count_77 at h
  refine lv_ladd hx hb dX12_count_77 ?_
  refine lv_topl (fun x1 ex1 => ?_)
  replace h := lt_get h x1 ex1
  refine lv_lstore_n (lv' := [(2, .long x1), (0, .ref (ad 0)), (4, .int v4)]) hx hb dX12_count_78 rfl hl (by decide) rfl (fun ls hl => ?_)
  obtain ⟨x2, ex2⟩ : ∃ z : Int32, z = (v4 + (1 : Int32)) := ⟨_, rfl⟩
  replace h := lt_get h x2 ex2
  refine lv_iinc (v := x2) (lv' := [(4, .int x2), (2, .long x1), (0, .ref (ad 0))]) hx hb dX12_count_79 hl (k := 2) rfl (by rw [ex2]; rfl) (by decide) rfl (fun ls hl => ?_)
  refine lv_goto (tgt := 53) hx hb dX12_count_82 (by decide) ?_
  exact hr53 x1 x2 sg lg h _ _ _ hw (lv_sub hl [2, 1, 0] rfl)
def fX12_count_53 (r53 : (Int64 × Int32 × Sg × Lg) → Option (Int64 × Sg × Lg)) (v2 : Int64) (v4 : Int32) (sg : Sg) (lg : Lg) : Option (Int64 × Sg × Lg) :=
  bnd3 (fX12_hens sg lg) (fun y1 sg2 lg3 => (if y1 ≤ v4 then some (v2, sg2, lg3) else bnd3 (fX12_counts v4 sg2 lg3) (fun y6 sg7 lg8 => (if y6 = 0 then fX12_count_77 r53 v4 (0 : Int64) v2 sg7 lg8 else fX12_count_77 r53 v4 (1 : Int64) v2 sg7 lg8))))
set_option maxHeartbeats 4000000 in
set_option maxRecDepth 100000 in
theorem tX12_count_53 (C : Cx p s m args meth c cX12_count 5 RX12 wsX12_count (some .long) D vwCl (tysM T) A false []) {ro : Int64} {so : Sg} {lo : Lg} {r53 : (Int64 × Int32 × Sg × Lg) → Option (Int64 × Sg × Lg)} (hr53 : ∀ (v2 : Int64) (v4 : Int32) (sg : Sg) (lg : Lg), r53 (v2, v4, sg, lg) = some (ro, so, lo) → ∀ (H : Heap) (locs : List Loc) (ls : Array Slot), WS ZM D vwCl T ad sg lg A s.heap H locs → lv_has ls 5 [(0, .ref (ad 0)), (2, .long v2), (4, .int v4)] → W p l e rmX12_count s m args below meth c H locs 0 0 (MQ below (QL ZM D vwCl T (tysM T) A (fun z => ad = z) ro so lo) args s 0 0 A) (F0 m 53 ls [])) : ∀ (v2 : Int64) (v4 : Int32) (sg : Sg) (lg : Lg), ∀ (H : Heap) (locs : List Loc) (ls : Array Slot), WS ZM D vwCl T ad sg lg A s.heap H locs → lv_has ls 5 [(0, .ref (ad 0)), (2, .long v2), (4, .int v4)] → fX12_count_53 r53 v2 v4 sg lg = some (ro, so, lo) → W p l e rmX12_count s m args below meth c H locs 0 0 (MQ below (QL ZM D vwCl T (tysM T) A (fun z => ad = z) ro so lo) args s 0 0 A) (F0 m 53 ls []) := by
  obtain ⟨⟨hx, hb, hml, hown, hts⟩, hr, hlk, hK, hA, hsp⟩ := id C
  intro v2 v4 sg lg H locs ls hw hl h
  unfold fX12_count_53 at h
  refine lv_iload hx hb dX12_count_53 (lv_at hl 2 rfl) ?_
  refine lv_aload_n hx hb dX12_count_55 rfl (lv_at hl 0 rfl) ?_
  obtain ⟨y1, sg2, lg3, hq4, h2⟩ := bnd3_some h
  replace h := h2
  clear h2
  refine r_cVi (As := []) (rest := [.int v4]) C hw 0 (by decide) (ci := 12) rfl rfl (mX12_hens l D T ad  H.size sg lg hq4) (cwV 0 hts gX12_count_X12_hens rfl rfl rfl (by decide +kernel) ⟨Nat.le_of_ble_eq_true rfl, Nat.le_of_ble_eq_true rfl⟩) rfl hl.1 rfl (Nat.le_of_ble_eq_true rfl) dX12_count_56 ⟨Nat.le_of_ble_eq_true rfl, Nat.le_of_ble_eq_true rfl⟩ (fun ad' H locs hp hw => ?_)
  subst hp
  refine W.widen (k := 0) (n := 0) (by decide) (by decide) ?_
  refine lv_icmp_ge (tgt := 85) hx hb dX12_count_59 (by decide) (fun c5 => ?_) (fun c5 => ?_)
  · replace h := ite_t h c5
    refine lv_lload_n hx hb dX12_count_85 rfl (lv_at hl 1 rfl) ?_
    cases h
    exact r_lret C hw rfl (by decide) (by decide) dX12_count_86
  · replace h := ite_f h c5
    refine lv_lload_n hx hb dX12_count_62 rfl (lv_at hl 1 rfl) ?_
    refine lv_aload_n hx hb dX12_count_63 rfl (lv_at hl 0 rfl) ?_
    refine lv_iload hx hb dX12_count_64 (lv_at hl 2 rfl) ?_
    obtain ⟨y6, sg7, lg8, hq9, h2⟩ := bnd3_some h
    replace h := h2
    clear h2
    refine r_cVi (As := [.int v4]) (rest := [.long v2]) C hw 0 (by decide) (ci := 12) rfl rfl (mX12_counts l D T ad  H.size v4 sg2 lg3 hq9) (cwV 1 hts gX12_count_X12_counts rfl rfl rfl (by decide +kernel) ⟨Nat.le_of_ble_eq_true rfl, Nat.le_of_ble_eq_true rfl⟩) rfl hl.1 rfl (Nat.le_of_ble_eq_true rfl) dX12_count_66 ⟨Nat.le_of_ble_eq_true rfl, Nat.le_of_ble_eq_true rfl⟩ (fun ad' H locs hp hw => ?_)
    subst hp
    refine W.widen (k := 0) (n := 0) (by decide) (by decide) ?_
    refine lv_if_eq (tgt := 76) hx hb dX12_count_69 (by decide) (fun c10 => ?_) (fun c10 => ?_)
    · replace h := ite_t h c10
      refine lv_lconst (v := (0 : Int64)) hx hb dX12_count_76 (by decide) ?_
      exact tX12_count_77 C hr53 v4 (0 : Int64) v2 sg7 lg8 _ _ _ hw (lv_sub hl [0, 2] rfl) h
    · replace h := ite_f h c10
      refine lv_lconst (v := (1 : Int64)) hx hb dX12_count_72 (by decide) ?_
      refine lv_goto (tgt := 77) hx hb dX12_count_73 (by decide) ?_
      exact tX12_count_77 C hr53 v4 (1 : Int64) v2 sg7 lg8 _ _ _ hw (lv_sub hl [0, 2] rfl) h
def LX12_count_53  : (Int64 × Int32 × Sg × Lg) → Option (Int64 × Sg × Lg) := loop (fun rec z => fX12_count_53 rec z.1 z.2.1 z.2.2.1 z.2.2.2)
theorem TX12_count_53 (C : Cx p s m args meth c cX12_count 5 RX12 wsX12_count (some .long) D vwCl (tysM T) A false []) {ro : Int64} {so : Sg} {lo : Lg}   : ∀ (v2 : Int64) (v4 : Int32) (sg : Sg) (lg : Lg), LX12_count_53 (v2, v4, sg, lg) = some (ro, so, lo) → ∀ (H : Heap) (locs : List Loc) (ls : Array Slot), WS ZM D vwCl T ad sg lg A s.heap H locs → lv_has ls 5 [(0, .ref (ad 0)), (2, .long v2), (4, .int v4)] → W p l e rmX12_count s m args below meth c H locs 0 0 (MQ below (QL ZM D vwCl T (tysM T) A (fun z => ad = z) ro so lo) args s 0 0 A) (F0 m 53 ls []) := by
  have key : ∀ z : (Int64 × Int32 × Sg × Lg), LX12_count_53  z = some (ro, so, lo) → ∀ (H : Heap) (locs : List Loc) (ls : Array Slot), WS ZM D vwCl T ad z.2.2.1 z.2.2.2 A s.heap H locs → lv_has ls 5 [(0, .ref (ad 0)), (2, .long z.1), (4, .int z.2.1)] → W p l e rmX12_count s m args below meth c H locs 0 0 (MQ below (QL ZM D vwCl T (tysM T) A (fun z => ad = z) ro so lo) args s 0 0 A) (F0 m 53 ls []) := by
    intro z h
    unfold LX12_count_53 at h
    exact loop_ind (fun rec z => fX12_count_53 rec z.1 z.2.1 z.2.2.1 z.2.2.2) (y := (ro, so, lo)) (P := fun z => ∀ (H : Heap) (locs : List Loc) (ls : Array Slot), WS ZM D vwCl T ad z.2.2.1 z.2.2.2 A s.heap H locs → lv_has ls 5 [(0, .ref (ad 0)), (2, .long z.1), (4, .int z.2.1)] → W p l e rmX12_count s m args below meth c H locs 0 0 (MQ below (QL ZM D vwCl T (tysM T) A (fun z => ad = z) ro so lo) args s 0 0 A) (F0 m 53 ls [])) (fun rec hrec z h H locs ls hw hl => tX12_count_53 C  (fun v2 v4 sg lg => hrec (v2, v4, sg, lg)) z.1 z.2.1 z.2.2.1 z.2.2.2 H locs ls hw hl h) z h
  exact fun v2 v4 sg lg => key (v2, v4, sg, lg)
def fX12_count_160 (r108 : (Int64 × Int32 × Sg × Lg) → Option (Int64 × Sg × Lg)) (v4 : Int32) (w0 : Int64) (w1 : Int64) (sg : Sg) (lg : Lg) : Option (Int64 × Sg × Lg) :=
  lt (w1 + w0) (fun x1 => lt (v4 + (1 : Int32)) (fun x2 => r108 (x1, x2, sg, lg)))
set_option maxHeartbeats 4000000 in
set_option maxRecDepth 100000 in
theorem tX12_count_160 (C : Cx p s m args meth c cX12_count 5 RX12 wsX12_count (some .long) D vwCl (tysM T) A false []) {ro : Int64} {so : Sg} {lo : Lg} {r108 : (Int64 × Int32 × Sg × Lg) → Option (Int64 × Sg × Lg)} (hr108 : ∀ (v2 : Int64) (v4 : Int32) (sg : Sg) (lg : Lg), r108 (v2, v4, sg, lg) = some (ro, so, lo) → ∀ (H : Heap) (locs : List Loc) (ls : Array Slot), WS ZM D vwCl T ad sg lg A s.heap H locs → lv_has ls 5 [(0, .ref (ad 0)), (2, .long v2), (4, .int v4)] → W p l e rmX12_count s m args below meth c H locs 0 0 (MQ below (QL ZM D vwCl T (tysM T) A (fun z => ad = z) ro so lo) args s 0 0 A) (F0 m 108 ls [])) : ∀ (v4 : Int32) (w0 : Int64) (w1 : Int64) (sg : Sg) (lg : Lg), ∀ (H : Heap) (locs : List Loc) (ls : Array Slot), WS ZM D vwCl T ad sg lg A s.heap H locs → lv_has ls 5 [(0, .ref (ad 0)), (4, .int v4)] → fX12_count_160 r108 v4 w0 w1 sg lg = some (ro, so, lo) → W p l e rmX12_count s m args below meth c H locs 0 0 (MQ below (QL ZM D vwCl T (tysM T) A (fun z => ad = z) ro so lo) args s 0 0 A) (F0 m 160 ls [.long w0, .long w1]) := by
  obtain ⟨⟨hx, hb, hml, hown, hts⟩, hr, hlk, hK, hA, hsp⟩ := id C
  intro v4 w0 w1 sg lg H locs ls hw hl h
  unfold fX12_count_160 at h
  refine lv_ladd hx hb dX12_count_160 ?_
  refine lv_topl (fun x1 ex1 => ?_)
  replace h := lt_get h x1 ex1
  refine lv_lstore_n (lv' := [(2, .long x1), (0, .ref (ad 0)), (4, .int v4)]) hx hb dX12_count_161 rfl hl (by decide) rfl (fun ls hl => ?_)
  obtain ⟨x2, ex2⟩ : ∃ z : Int32, z = (v4 + (1 : Int32)) := ⟨_, rfl⟩
  replace h := lt_get h x2 ex2
  refine lv_iinc (v := x2) (lv' := [(4, .int x2), (2, .long x1), (0, .ref (ad 0))]) hx hb dX12_count_162 hl (k := 2) rfl (by rw [ex2]; rfl) (by decide) rfl (fun ls hl => ?_)
  refine lv_goto (tgt := 108) hx hb dX12_count_165 (by decide) ?_
  exact hr108 x1 x2 sg lg h _ _ _ hw (lv_sub hl [2, 1, 0] rfl)
def fX12_count_159 (r108 : (Int64 × Int32 × Sg × Lg) → Option (Int64 × Sg × Lg)) (v4 : Int32) (w0 : Int64) (sg : Sg) (lg : Lg) : Option (Int64 × Sg × Lg) :=
  fX12_count_160 r108 v4 (0 : Int64) w0 sg lg
set_option maxHeartbeats 4000000 in
set_option maxRecDepth 100000 in
theorem tX12_count_159 (C : Cx p s m args meth c cX12_count 5 RX12 wsX12_count (some .long) D vwCl (tysM T) A false []) {ro : Int64} {so : Sg} {lo : Lg} {r108 : (Int64 × Int32 × Sg × Lg) → Option (Int64 × Sg × Lg)} (hr108 : ∀ (v2 : Int64) (v4 : Int32) (sg : Sg) (lg : Lg), r108 (v2, v4, sg, lg) = some (ro, so, lo) → ∀ (H : Heap) (locs : List Loc) (ls : Array Slot), WS ZM D vwCl T ad sg lg A s.heap H locs → lv_has ls 5 [(0, .ref (ad 0)), (2, .long v2), (4, .int v4)] → W p l e rmX12_count s m args below meth c H locs 0 0 (MQ below (QL ZM D vwCl T (tysM T) A (fun z => ad = z) ro so lo) args s 0 0 A) (F0 m 108 ls [])) : ∀ (v4 : Int32) (w0 : Int64) (sg : Sg) (lg : Lg), ∀ (H : Heap) (locs : List Loc) (ls : Array Slot), WS ZM D vwCl T ad sg lg A s.heap H locs → lv_has ls 5 [(0, .ref (ad 0)), (4, .int v4)] → fX12_count_159 r108 v4 w0 sg lg = some (ro, so, lo) → W p l e rmX12_count s m args below meth c H locs 0 0 (MQ below (QL ZM D vwCl T (tysM T) A (fun z => ad = z) ro so lo) args s 0 0 A) (F0 m 159 ls [.long w0]) := by
  obtain ⟨⟨hx, hb, hml, hown, hts⟩, hr, hlk, hK, hA, hsp⟩ := id C
  intro v4 w0 sg lg H locs ls hw hl h
  unfold fX12_count_159 at h
  refine lv_lconst (v := (0 : Int64)) hx hb dX12_count_159 (by decide) ?_
  exact tX12_count_160 C hr108 v4 (0 : Int64) w0 sg lg _ _ _ hw (lv_sub hl [0, 1] rfl) h
def fX12_count_108 (r108 : (Int64 × Int32 × Sg × Lg) → Option (Int64 × Sg × Lg)) (v2 : Int64) (v4 : Int32) (sg : Sg) (lg : Lg) : Option (Int64 × Sg × Lg) :=
  (if (144 : Int32) ≤ v4 then some (v2, sg, lg) else bnd3 (fX12_counts (v4 / (12 : Int32)) sg lg) (fun y2 sg3 lg4 => (if y2 = 0 then fX12_count_159 r108 v4 v2 sg3 lg4 else bnd3 (fX12_counts (v4 - v4 / (12 : Int32) * (12 : Int32)) sg3 lg4) (fun y7 sg8 lg9 => (if y7 = 0 then fX12_count_159 r108 v4 v2 sg8 lg9 else bnd3 (fX12_peckOf (v4 / (12 : Int32)) (v4 - v4 / (12 : Int32) * (12 : Int32)) sg8 lg9) (fun y12 sg13 lg14 => fX12_count_160 r108 v4 y12.toInt64 v2 sg13 lg14))))))
set_option maxHeartbeats 4000000 in
set_option maxRecDepth 100000 in
theorem tX12_count_108 (C : Cx p s m args meth c cX12_count 5 RX12 wsX12_count (some .long) D vwCl (tysM T) A false []) {ro : Int64} {so : Sg} {lo : Lg} {r108 : (Int64 × Int32 × Sg × Lg) → Option (Int64 × Sg × Lg)} (hr108 : ∀ (v2 : Int64) (v4 : Int32) (sg : Sg) (lg : Lg), r108 (v2, v4, sg, lg) = some (ro, so, lo) → ∀ (H : Heap) (locs : List Loc) (ls : Array Slot), WS ZM D vwCl T ad sg lg A s.heap H locs → lv_has ls 5 [(0, .ref (ad 0)), (2, .long v2), (4, .int v4)] → W p l e rmX12_count s m args below meth c H locs 0 0 (MQ below (QL ZM D vwCl T (tysM T) A (fun z => ad = z) ro so lo) args s 0 0 A) (F0 m 108 ls [])) : ∀ (v2 : Int64) (v4 : Int32) (sg : Sg) (lg : Lg), ∀ (H : Heap) (locs : List Loc) (ls : Array Slot), WS ZM D vwCl T ad sg lg A s.heap H locs → lv_has ls 5 [(0, .ref (ad 0)), (2, .long v2), (4, .int v4)] → fX12_count_108 r108 v2 v4 sg lg = some (ro, so, lo) → W p l e rmX12_count s m args below meth c H locs 0 0 (MQ below (QL ZM D vwCl T (tysM T) A (fun z => ad = z) ro so lo) args s 0 0 A) (F0 m 108 ls []) := by
  obtain ⟨⟨hx, hb, hml, hown, hts⟩, hr, hlk, hK, hA, hsp⟩ := id C
  intro v2 v4 sg lg H locs ls hw hl h
  unfold fX12_count_108 at h
  refine lv_iload hx hb dX12_count_108 (lv_at hl 2 rfl) ?_
  refine lv_sipush (v := (144 : Int32)) hx hb dX12_count_110 (by decide) ?_
  refine lv_icmp_ge (tgt := 168) hx hb dX12_count_113 (by decide) (fun c1 => ?_) (fun c1 => ?_)
  · replace h := ite_t h c1
    refine lv_lload_n hx hb dX12_count_168 rfl (lv_at hl 1 rfl) ?_
    cases h
    exact r_lret C hw rfl (by decide) (by decide) dX12_count_169
  · replace h := ite_f h c1
    refine lv_lload_n hx hb dX12_count_116 rfl (lv_at hl 1 rfl) ?_
    refine lv_aload_n hx hb dX12_count_117 rfl (lv_at hl 0 rfl) ?_
    refine lv_iload hx hb dX12_count_118 (lv_at hl 2 rfl) ?_
    refine lv_bipush (v := (12 : Int32)) hx hb dX12_count_120 (by decide) ?_
    refine lv_idiv hx hb dX12_count_122 (by decide) ?_
    obtain ⟨y2, sg3, lg4, hq5, h2⟩ := bnd3_some h
    replace h := h2
    clear h2
    refine r_cVi (As := [.int (v4 / (12 : Int32))]) (rest := [.long v2]) C hw 0 (by decide) (ci := 12) rfl rfl (mX12_counts l D T ad  H.size (v4 / (12 : Int32)) sg lg hq5) (cwV 1 hts gX12_count_X12_counts rfl rfl rfl (by decide +kernel) ⟨Nat.le_of_ble_eq_true rfl, Nat.le_of_ble_eq_true rfl⟩) rfl hl.1 rfl (Nat.le_of_ble_eq_true rfl) dX12_count_123 ⟨Nat.le_of_ble_eq_true rfl, Nat.le_of_ble_eq_true rfl⟩ (fun ad' H locs hp hw => ?_)
    subst hp
    refine W.widen (k := 0) (n := 0) (by decide) (by decide) ?_
    refine lv_if_eq (tgt := 159) hx hb dX12_count_126 (by decide) (fun c6 => ?_) (fun c6 => ?_)
    · replace h := ite_t h c6
      exact tX12_count_159 C hr108 v4 v2 sg3 lg4 _ _ _ hw (lv_sub hl [0, 2] rfl) h
    · replace h := ite_f h c6
      refine lv_aload_n hx hb dX12_count_129 rfl (lv_at hl 0 rfl) ?_
      refine lv_iload hx hb dX12_count_130 (lv_at hl 2 rfl) ?_
      refine lv_bipush (v := (12 : Int32)) hx hb dX12_count_132 (by decide) ?_
      refine lv_irem hx hb dX12_count_134 (by decide) ?_
      obtain ⟨y7, sg8, lg9, hq10, h2⟩ := bnd3_some h
      replace h := h2
      clear h2
      refine r_cVi (As := [.int (v4 - v4 / (12 : Int32) * (12 : Int32))]) (rest := [.long v2]) C hw 0 (by decide) (ci := 12) rfl rfl (mX12_counts l D T ad  H.size (v4 - v4 / (12 : Int32) * (12 : Int32)) sg3 lg4 hq10) (cwV 1 hts gX12_count_X12_counts rfl rfl rfl (by decide +kernel) ⟨Nat.le_of_ble_eq_true rfl, Nat.le_of_ble_eq_true rfl⟩) rfl hl.1 rfl (Nat.le_of_ble_eq_true rfl) dX12_count_135 ⟨Nat.le_of_ble_eq_true rfl, Nat.le_of_ble_eq_true rfl⟩ (fun ad' H locs hp hw => ?_)
      subst hp
      refine W.widen (k := 0) (n := 0) (by decide) (by decide) ?_
      refine lv_if_eq (tgt := 159) hx hb dX12_count_138 (by decide) (fun c11 => ?_) (fun c11 => ?_)
      · replace h := ite_t h c11
        exact tX12_count_159 C hr108 v4 v2 sg8 lg9 _ _ _ hw (lv_sub hl [0, 2] rfl) h
      · replace h := ite_f h c11
        refine lv_aload_n hx hb dX12_count_141 rfl (lv_at hl 0 rfl) ?_
        refine lv_iload hx hb dX12_count_142 (lv_at hl 2 rfl) ?_
        refine lv_bipush (v := (12 : Int32)) hx hb dX12_count_144 (by decide) ?_
        refine lv_idiv hx hb dX12_count_146 (by decide) ?_
        refine lv_iload hx hb dX12_count_147 (lv_at hl 2 rfl) ?_
        refine lv_bipush (v := (12 : Int32)) hx hb dX12_count_149 (by decide) ?_
        refine lv_irem hx hb dX12_count_151 (by decide) ?_
        obtain ⟨y12, sg13, lg14, hq15, h2⟩ := bnd3_some h
        replace h := h2
        clear h2
        refine r_cVi (As := [.int (v4 / (12 : Int32)), .int (v4 - v4 / (12 : Int32) * (12 : Int32))]) (rest := [.long v2]) C hw 0 (by decide) (ci := 12) rfl rfl (mX12_peckOf l D T ad  H.size (v4 / (12 : Int32)) (v4 - v4 / (12 : Int32) * (12 : Int32)) sg8 lg9 hq15) (cwV 2 hts gX12_count_X12_peckOf rfl rfl rfl (by decide +kernel) ⟨Nat.le_of_ble_eq_true rfl, Nat.le_of_ble_eq_true rfl⟩) rfl hl.1 rfl (Nat.le_of_ble_eq_true rfl) dX12_count_152 ⟨Nat.le_of_ble_eq_true rfl, Nat.le_of_ble_eq_true rfl⟩ (fun ad' H locs hp hw => ?_)
        subst hp
        refine W.widen (k := 0) (n := 0) (by decide) (by decide) ?_
        refine lv_i2l (v := y12.toInt64) hx hb dX12_count_155 rfl ?_
        refine lv_goto (tgt := 160) hx hb dX12_count_156 (by decide) ?_
        exact tX12_count_160 C hr108 v4 y12.toInt64 v2 sg13 lg14 _ _ _ hw (lv_sub hl [0, 2] rfl) h
def LX12_count_108  : (Int64 × Int32 × Sg × Lg) → Option (Int64 × Sg × Lg) := loop (fun rec z => fX12_count_108 rec z.1 z.2.1 z.2.2.1 z.2.2.2)
theorem TX12_count_108 (C : Cx p s m args meth c cX12_count 5 RX12 wsX12_count (some .long) D vwCl (tysM T) A false []) {ro : Int64} {so : Sg} {lo : Lg}   : ∀ (v2 : Int64) (v4 : Int32) (sg : Sg) (lg : Lg), LX12_count_108 (v2, v4, sg, lg) = some (ro, so, lo) → ∀ (H : Heap) (locs : List Loc) (ls : Array Slot), WS ZM D vwCl T ad sg lg A s.heap H locs → lv_has ls 5 [(0, .ref (ad 0)), (2, .long v2), (4, .int v4)] → W p l e rmX12_count s m args below meth c H locs 0 0 (MQ below (QL ZM D vwCl T (tysM T) A (fun z => ad = z) ro so lo) args s 0 0 A) (F0 m 108 ls []) := by
  have key : ∀ z : (Int64 × Int32 × Sg × Lg), LX12_count_108  z = some (ro, so, lo) → ∀ (H : Heap) (locs : List Loc) (ls : Array Slot), WS ZM D vwCl T ad z.2.2.1 z.2.2.2 A s.heap H locs → lv_has ls 5 [(0, .ref (ad 0)), (2, .long z.1), (4, .int z.2.1)] → W p l e rmX12_count s m args below meth c H locs 0 0 (MQ below (QL ZM D vwCl T (tysM T) A (fun z => ad = z) ro so lo) args s 0 0 A) (F0 m 108 ls []) := by
    intro z h
    unfold LX12_count_108 at h
    exact loop_ind (fun rec z => fX12_count_108 rec z.1 z.2.1 z.2.2.1 z.2.2.2) (y := (ro, so, lo)) (P := fun z => ∀ (H : Heap) (locs : List Loc) (ls : Array Slot), WS ZM D vwCl T ad z.2.2.1 z.2.2.2 A s.heap H locs → lv_has ls 5 [(0, .ref (ad 0)), (2, .long z.1), (4, .int z.2.1)] → W p l e rmX12_count s m args below meth c H locs 0 0 (MQ below (QL ZM D vwCl T (tysM T) A (fun z => ad = z) ro so lo) args s 0 0 A) (F0 m 108 ls [])) (fun rec hrec z h H locs ls hw hl => tX12_count_108 C  (fun v2 v4 sg lg => hrec (v2, v4, sg, lg)) z.1 z.2.1 z.2.2.1 z.2.2.2 H locs ls hw hl h) z h
  exact fun v2 v4 sg lg => key (v2, v4, sg, lg)
def fX12_count_197 (r173 : (Int64 × Int32 × Sg × Lg) → Option (Int64 × Sg × Lg)) (v4 : Int32) (w0 : Int64) (w1 : Int64) (sg : Sg) (lg : Lg) : Option (Int64 × Sg × Lg) :=
  lt (w1 + w0) (fun x1 => lt (v4 + (1 : Int32)) (fun x2 => r173 (x1, x2, sg, lg)))
set_option maxHeartbeats 4000000 in
set_option maxRecDepth 100000 in
theorem tX12_count_197 (C : Cx p s m args meth c cX12_count 5 RX12 wsX12_count (some .long) D vwCl (tysM T) A false []) {ro : Int64} {so : Sg} {lo : Lg} {r173 : (Int64 × Int32 × Sg × Lg) → Option (Int64 × Sg × Lg)} (hr173 : ∀ (v2 : Int64) (v4 : Int32) (sg : Sg) (lg : Lg), r173 (v2, v4, sg, lg) = some (ro, so, lo) → ∀ (H : Heap) (locs : List Loc) (ls : Array Slot), WS ZM D vwCl T ad sg lg A s.heap H locs → lv_has ls 5 [(0, .ref (ad 0)), (2, .long v2), (4, .int v4)] → W p l e rmX12_count s m args below meth c H locs 0 0 (MQ below (QL ZM D vwCl T (tysM T) A (fun z => ad = z) ro so lo) args s 0 0 A) (F0 m 173 ls [])) : ∀ (v4 : Int32) (w0 : Int64) (w1 : Int64) (sg : Sg) (lg : Lg), ∀ (H : Heap) (locs : List Loc) (ls : Array Slot), WS ZM D vwCl T ad sg lg A s.heap H locs → lv_has ls 5 [(0, .ref (ad 0)), (4, .int v4)] → fX12_count_197 r173 v4 w0 w1 sg lg = some (ro, so, lo) → W p l e rmX12_count s m args below meth c H locs 0 0 (MQ below (QL ZM D vwCl T (tysM T) A (fun z => ad = z) ro so lo) args s 0 0 A) (F0 m 197 ls [.long w0, .long w1]) := by
  obtain ⟨⟨hx, hb, hml, hown, hts⟩, hr, hlk, hK, hA, hsp⟩ := id C
  intro v4 w0 w1 sg lg H locs ls hw hl h
  unfold fX12_count_197 at h
  refine lv_ladd hx hb dX12_count_197 ?_
  refine lv_topl (fun x1 ex1 => ?_)
  replace h := lt_get h x1 ex1
  refine lv_lstore_n (lv' := [(2, .long x1), (0, .ref (ad 0)), (4, .int v4)]) hx hb dX12_count_198 rfl hl (by decide) rfl (fun ls hl => ?_)
  obtain ⟨x2, ex2⟩ : ∃ z : Int32, z = (v4 + (1 : Int32)) := ⟨_, rfl⟩
  replace h := lt_get h x2 ex2
  refine lv_iinc (v := x2) (lv' := [(4, .int x2), (2, .long x1), (0, .ref (ad 0))]) hx hb dX12_count_199 hl (k := 2) rfl (by rw [ex2]; rfl) (by decide) rfl (fun ls hl => ?_)
  refine lv_goto (tgt := 173) hx hb dX12_count_202 (by decide) ?_
  exact hr173 x1 x2 sg lg h _ _ _ hw (lv_sub hl [2, 1, 0] rfl)
def fX12_count_173 (r173 : (Int64 × Int32 × Sg × Lg) → Option (Int64 × Sg × Lg)) (v2 : Int64) (v4 : Int32) (sg : Sg) (lg : Lg) : Option (Int64 × Sg × Lg) :=
  bnd3 (fX12_hens sg lg) (fun y1 sg2 lg3 => (if y1 ≤ v4 then some (v2, sg2, lg3) else bnd3 (fX12_width v4 sg2 lg3) (fun y6 sg7 lg8 => (if y6 < 0 then fX12_count_197 r173 v4 (0 : Int64) v2 sg7 lg8 else fX12_count_197 r173 v4 (1 : Int64) v2 sg7 lg8))))
set_option maxHeartbeats 4000000 in
set_option maxRecDepth 100000 in
theorem tX12_count_173 (C : Cx p s m args meth c cX12_count 5 RX12 wsX12_count (some .long) D vwCl (tysM T) A false []) {ro : Int64} {so : Sg} {lo : Lg} {r173 : (Int64 × Int32 × Sg × Lg) → Option (Int64 × Sg × Lg)} (hr173 : ∀ (v2 : Int64) (v4 : Int32) (sg : Sg) (lg : Lg), r173 (v2, v4, sg, lg) = some (ro, so, lo) → ∀ (H : Heap) (locs : List Loc) (ls : Array Slot), WS ZM D vwCl T ad sg lg A s.heap H locs → lv_has ls 5 [(0, .ref (ad 0)), (2, .long v2), (4, .int v4)] → W p l e rmX12_count s m args below meth c H locs 0 0 (MQ below (QL ZM D vwCl T (tysM T) A (fun z => ad = z) ro so lo) args s 0 0 A) (F0 m 173 ls [])) : ∀ (v2 : Int64) (v4 : Int32) (sg : Sg) (lg : Lg), ∀ (H : Heap) (locs : List Loc) (ls : Array Slot), WS ZM D vwCl T ad sg lg A s.heap H locs → lv_has ls 5 [(0, .ref (ad 0)), (2, .long v2), (4, .int v4)] → fX12_count_173 r173 v2 v4 sg lg = some (ro, so, lo) → W p l e rmX12_count s m args below meth c H locs 0 0 (MQ below (QL ZM D vwCl T (tysM T) A (fun z => ad = z) ro so lo) args s 0 0 A) (F0 m 173 ls []) := by
  obtain ⟨⟨hx, hb, hml, hown, hts⟩, hr, hlk, hK, hA, hsp⟩ := id C
  intro v2 v4 sg lg H locs ls hw hl h
  unfold fX12_count_173 at h
  refine lv_iload hx hb dX12_count_173 (lv_at hl 2 rfl) ?_
  refine lv_aload_n hx hb dX12_count_175 rfl (lv_at hl 0 rfl) ?_
  obtain ⟨y1, sg2, lg3, hq4, h2⟩ := bnd3_some h
  replace h := h2
  clear h2
  refine r_cVi (As := []) (rest := [.int v4]) C hw 0 (by decide) (ci := 12) rfl rfl (mX12_hens l D T ad  H.size sg lg hq4) (cwV 0 hts gX12_count_X12_hens rfl rfl rfl (by decide +kernel) ⟨Nat.le_of_ble_eq_true rfl, Nat.le_of_ble_eq_true rfl⟩) rfl hl.1 rfl (Nat.le_of_ble_eq_true rfl) dX12_count_176 ⟨Nat.le_of_ble_eq_true rfl, Nat.le_of_ble_eq_true rfl⟩ (fun ad' H locs hp hw => ?_)
  subst hp
  refine W.widen (k := 0) (n := 0) (by decide) (by decide) ?_
  refine lv_icmp_ge (tgt := 205) hx hb dX12_count_179 (by decide) (fun c5 => ?_) (fun c5 => ?_)
  · replace h := ite_t h c5
    refine lv_lload_n hx hb dX12_count_205 rfl (lv_at hl 1 rfl) ?_
    cases h
    exact r_lret C hw rfl (by decide) (by decide) dX12_count_206
  · replace h := ite_f h c5
    refine lv_lload_n hx hb dX12_count_182 rfl (lv_at hl 1 rfl) ?_
    refine lv_aload_n hx hb dX12_count_183 rfl (lv_at hl 0 rfl) ?_
    refine lv_iload hx hb dX12_count_184 (lv_at hl 2 rfl) ?_
    obtain ⟨y6, sg7, lg8, hq9, h2⟩ := bnd3_some h
    replace h := h2
    clear h2
    refine r_cVi (As := [.int v4]) (rest := [.long v2]) C hw 0 (by decide) (ci := 12) rfl rfl (mX12_width l D T ad  H.size v4 sg2 lg3 hq9) (cwV 1 hts gX12_count_X12_width rfl rfl rfl (by decide +kernel) ⟨Nat.le_of_ble_eq_true rfl, Nat.le_of_ble_eq_true rfl⟩) rfl hl.1 rfl (Nat.le_of_ble_eq_true rfl) dX12_count_186 ⟨Nat.le_of_ble_eq_true rfl, Nat.le_of_ble_eq_true rfl⟩ (fun ad' H locs hp hw => ?_)
    subst hp
    refine W.widen (k := 0) (n := 0) (by decide) (by decide) ?_
    refine lv_if_lt (tgt := 196) hx hb dX12_count_189 (by decide) (fun c10 => ?_) (fun c10 => ?_)
    · replace h := ite_t h c10
      refine lv_lconst (v := (0 : Int64)) hx hb dX12_count_196 (by decide) ?_
      exact tX12_count_197 C hr173 v4 (0 : Int64) v2 sg7 lg8 _ _ _ hw (lv_sub hl [0, 2] rfl) h
    · replace h := ite_f h c10
      refine lv_lconst (v := (1 : Int64)) hx hb dX12_count_192 (by decide) ?_
      refine lv_goto (tgt := 197) hx hb dX12_count_193 (by decide) ?_
      exact tX12_count_197 C hr173 v4 (1 : Int64) v2 sg7 lg8 _ _ _ hw (lv_sub hl [0, 2] rfl) h
def LX12_count_173  : (Int64 × Int32 × Sg × Lg) → Option (Int64 × Sg × Lg) := loop (fun rec z => fX12_count_173 rec z.1 z.2.1 z.2.2.1 z.2.2.2)
theorem TX12_count_173 (C : Cx p s m args meth c cX12_count 5 RX12 wsX12_count (some .long) D vwCl (tysM T) A false []) {ro : Int64} {so : Sg} {lo : Lg}   : ∀ (v2 : Int64) (v4 : Int32) (sg : Sg) (lg : Lg), LX12_count_173 (v2, v4, sg, lg) = some (ro, so, lo) → ∀ (H : Heap) (locs : List Loc) (ls : Array Slot), WS ZM D vwCl T ad sg lg A s.heap H locs → lv_has ls 5 [(0, .ref (ad 0)), (2, .long v2), (4, .int v4)] → W p l e rmX12_count s m args below meth c H locs 0 0 (MQ below (QL ZM D vwCl T (tysM T) A (fun z => ad = z) ro so lo) args s 0 0 A) (F0 m 173 ls []) := by
  have key : ∀ z : (Int64 × Int32 × Sg × Lg), LX12_count_173  z = some (ro, so, lo) → ∀ (H : Heap) (locs : List Loc) (ls : Array Slot), WS ZM D vwCl T ad z.2.2.1 z.2.2.2 A s.heap H locs → lv_has ls 5 [(0, .ref (ad 0)), (2, .long z.1), (4, .int z.2.1)] → W p l e rmX12_count s m args below meth c H locs 0 0 (MQ below (QL ZM D vwCl T (tysM T) A (fun z => ad = z) ro so lo) args s 0 0 A) (F0 m 173 ls []) := by
    intro z h
    unfold LX12_count_173 at h
    exact loop_ind (fun rec z => fX12_count_173 rec z.1 z.2.1 z.2.2.1 z.2.2.2) (y := (ro, so, lo)) (P := fun z => ∀ (H : Heap) (locs : List Loc) (ls : Array Slot), WS ZM D vwCl T ad z.2.2.1 z.2.2.2 A s.heap H locs → lv_has ls 5 [(0, .ref (ad 0)), (2, .long z.1), (4, .int z.2.1)] → W p l e rmX12_count s m args below meth c H locs 0 0 (MQ below (QL ZM D vwCl T (tysM T) A (fun z => ad = z) ro so lo) args s 0 0 A) (F0 m 173 ls [])) (fun rec hrec z h H locs ls hw hl => tX12_count_173 C  (fun v2 v4 sg lg => hrec (v2, v4, sg, lg)) z.1 z.2.1 z.2.2.1 z.2.2.2 H locs ls hw hl h) z h
  exact fun v2 v4 sg lg => key (v2, v4, sg, lg)
def fX12_count  (v1 : Int32) (sg : Sg) (lg : Lg) : Option (Int64 × Sg × Lg) :=
  (if v1 = (0 : Int32) then bnd3 (fX12_hens sg lg) (fun y2 sg3 lg4 => some (y2.toInt64, sg3, lg4)) else (if v1 = (1 : Int32) then LX12_count_53 ((0 : Int64), (0 : Int32), sg, lg) else (if v1 = (2 : Int32) then some ((sg 0 4).toInt64, sg, lg) else (if v1 = (3 : Int32) then some ((sg 0 2).toInt64, sg, lg) else (if v1 = (4 : Int32) then some ((sg 0 17).toInt64, sg, lg) else (if v1 = (5 : Int32) then LX12_count_108 ((0 : Int64), (0 : Int32), sg, lg) else (if v1 = (6 : Int32) then LX12_count_173 ((0 : Int64), (0 : Int32), sg, lg) else some ((-2000000001 : Int64), sg, lg))))))))
set_option maxHeartbeats 4000000 in
set_option maxRecDepth 100000 in
theorem tX12_count_0 (C : Cx p s m args meth c cX12_count 5 RX12 wsX12_count (some .long) D vwCl (tysM T) A false []) {ro : Int64} {so : Sg} {lo : Lg}   : ∀ (v1 : Int32) (sg : Sg) (lg : Lg), ∀ (H : Heap) (locs : List Loc) (ls : Array Slot), WS ZM D vwCl T ad sg lg A s.heap H locs → lv_has ls 5 [(0, .ref (ad 0)), (1, .int v1)] → fX12_count v1 sg lg = some (ro, so, lo) → W p l e rmX12_count s m args below meth c H locs 0 0 (MQ below (QL ZM D vwCl T (tysM T) A (fun z => ad = z) ro so lo) args s 0 0 A) (F0 m 0 ls []) := by
  obtain ⟨⟨hx, hb, hml, hown, hts⟩, hr, hlk, hK, hA, hsp⟩ := id C
  intro v1 sg lg H locs ls hw hl h
  unfold fX12_count at h
  refine lv_lconst (v := (0 : Int64)) hx hb dX12_count_0 (by decide) ?_
  refine lv_lstore_n (lv' := [(2, .long (0 : Int64)), (0, .ref (ad 0)), (1, .int v1)]) hx hb dX12_count_1 rfl hl (by decide) rfl (fun ls hl => ?_)
  refine lv_iload_n hx hb dX12_count_2 rfl (lv_at hl 2 rfl) ?_
  by_cases c1 : v1 = (0 : Int32)
  · replace h := ite_t h c1
    refine lv_tableIn (tgt := 44) (off := 41) hx hb dX12_count_3 (by rw [c1]; decide) (by rw [c1]; decide) (by rw [c1]; rfl) (by decide) ?_
    refine lv_aload_n hx hb dX12_count_44 rfl (lv_at hl 1 rfl) ?_
    obtain ⟨y2, sg3, lg4, hq5, h2⟩ := bnd3_some h
    replace h := h2
    clear h2
    refine r_cVi (As := []) (rest := []) C hw 0 (by decide) (ci := 12) rfl rfl (mX12_hens l D T ad  H.size sg lg hq5) (cwV 0 hts gX12_count_X12_hens rfl rfl rfl (by decide +kernel) ⟨Nat.le_of_ble_eq_true rfl, Nat.le_of_ble_eq_true rfl⟩) rfl hl.1 rfl (Nat.le_of_ble_eq_true rfl) dX12_count_45 ⟨Nat.le_of_ble_eq_true rfl, Nat.le_of_ble_eq_true rfl⟩ (fun ad' H locs hp hw => ?_)
    subst hp
    refine W.widen (k := 0) (n := 0) (by decide) (by decide) ?_
    refine lv_i2l (v := y2.toInt64) hx hb dX12_count_48 rfl ?_
    cases h
    exact r_lret C hw rfl (by decide) (by decide) dX12_count_49
  replace h := ite_f h c1
  by_cases c6 : v1 = (1 : Int32)
  · replace h := ite_t h c6
    refine lv_tableIn (tgt := 50) (off := 47) hx hb dX12_count_3 (by rw [c6]; decide) (by rw [c6]; decide) (by rw [c6]; rfl) (by decide) ?_
    refine lv_iconst (v := (0 : Int32)) hx hb dX12_count_50 (by decide) ?_
    refine lv_istore (lv' := [(4, .int (0 : Int32)), (2, .long (0 : Int64)), (0, .ref (ad 0)), (1, .int v1)]) hx hb dX12_count_51 hl (by decide) rfl (fun ls hl => ?_)
    exact TX12_count_53 C (0 : Int64) (0 : Int32) sg lg h _ _ _ hw (lv_sub hl [2, 1, 0] rfl)
  replace h := ite_f h c6
  by_cases c7 : v1 = (2 : Int32)
  · replace h := ite_t h c7
    refine lv_tableIn (tgt := 87) (off := 84) hx hb dX12_count_3 (by rw [c7]; decide) (by rw [c7]; decide) (by rw [c7]; rfl) (by decide) ?_
    refine lv_aload_n hx hb dX12_count_87 rfl (lv_at hl 1 rfl) ?_
    refine r_getI (ci := 12) (C := RX12) (U := TX12) (N := 18) hx hb hts kX12_count_iX12 hown hK hw 0 (by decide) rfl rfl 4 (by decide) rfl (hts _ kX12_count_f153) (fun _ h9 => h9) dX12_count_88 ?_
    refine lv_i2l (v := (sg 0 4).toInt64) hx hb dX12_count_91 rfl ?_
    cases h
    exact r_lret C hw rfl (by decide) (by decide) dX12_count_92
  replace h := ite_f h c7
  by_cases c8 : v1 = (3 : Int32)
  · replace h := ite_t h c8
    refine lv_tableIn (tgt := 93) (off := 90) hx hb dX12_count_3 (by rw [c8]; decide) (by rw [c8]; decide) (by rw [c8]; rfl) (by decide) ?_
    refine lv_aload_n hx hb dX12_count_93 rfl (lv_at hl 1 rfl) ?_
    refine r_getI (ci := 12) (C := RX12) (U := TX12) (N := 18) hx hb hts kX12_count_iX12 hown hK hw 0 (by decide) rfl rfl 2 (by decide) rfl (hts _ kX12_count_f49) (fun _ h9 => h9) dX12_count_94 ?_
    refine lv_i2l (v := (sg 0 2).toInt64) hx hb dX12_count_97 rfl ?_
    cases h
    exact r_lret C hw rfl (by decide) (by decide) dX12_count_98
  replace h := ite_f h c8
  by_cases c9 : v1 = (4 : Int32)
  · replace h := ite_t h c9
    refine lv_tableIn (tgt := 99) (off := 96) hx hb dX12_count_3 (by rw [c9]; decide) (by rw [c9]; decide) (by rw [c9]; rfl) (by decide) ?_
    refine lv_aload_n hx hb dX12_count_99 rfl (lv_at hl 1 rfl) ?_
    refine r_getI (ci := 12) (C := RX12) (U := TX12) (N := 18) hx hb hts kX12_count_iX12 hown hK hw 0 (by decide) rfl rfl 17 (by decide) rfl (hts _ kX12_count_f212) (fun _ h9 => h9) dX12_count_100 ?_
    refine lv_i2l (v := (sg 0 17).toInt64) hx hb dX12_count_103 rfl ?_
    cases h
    exact r_lret C hw rfl (by decide) (by decide) dX12_count_104
  replace h := ite_f h c9
  by_cases c10 : v1 = (5 : Int32)
  · replace h := ite_t h c10
    refine lv_tableIn (tgt := 105) (off := 102) hx hb dX12_count_3 (by rw [c10]; decide) (by rw [c10]; decide) (by rw [c10]; rfl) (by decide) ?_
    refine lv_iconst (v := (0 : Int32)) hx hb dX12_count_105 (by decide) ?_
    refine lv_istore (lv' := [(4, .int (0 : Int32)), (2, .long (0 : Int64)), (0, .ref (ad 0)), (1, .int v1)]) hx hb dX12_count_106 hl (by decide) rfl (fun ls hl => ?_)
    exact TX12_count_108 C (0 : Int64) (0 : Int32) sg lg h _ _ _ hw (lv_sub hl [2, 1, 0] rfl)
  replace h := ite_f h c10
  by_cases c11 : v1 = (6 : Int32)
  · replace h := ite_t h c11
    refine lv_tableIn (tgt := 170) (off := 167) hx hb dX12_count_3 (by rw [c11]; decide) (by rw [c11]; decide) (by rw [c11]; rfl) (by decide) ?_
    refine lv_iconst (v := (0 : Int32)) hx hb dX12_count_170 (by decide) ?_
    refine lv_istore (lv' := [(4, .int (0 : Int32)), (2, .long (0 : Int64)), (0, .ref (ad 0)), (1, .int v1)]) hx hb dX12_count_171 hl (by decide) rfl (fun ls hl => ?_)
    exact TX12_count_173 C (0 : Int64) (0 : Int32) sg lg h _ _ _ hw (lv_sub hl [2, 1, 0] rfl)
  replace h := ite_f h c11
  refine lv_tableOut (tgt := 207) hx hb dX12_count_3 (by have q0 := lv_neT c1 (a := 0) (by decide); have q1 := lv_neT c6 (a := 1) (by decide); have q2 := lv_neT c7 (a := 2) (by decide); have q3 := lv_neT c8 (a := 3) (by decide); have q4 := lv_neT c9 (a := 4) (by decide); have q5 := lv_neT c10 (a := 5) (by decide); have q6 := lv_neT c11 (a := 6) (by decide); omega) (by decide) ?_
  refine lv_ldc2 hx hb hown (hts _ kX12_count_c72) dX12_count_207 ?_
  cases h
  exact r_lret C hw rfl (by decide) (by decide) dX12_count_210
theorem mX12_count (l : Launch) (D : va_G) (T : Nat → ClassId) (ad : Nat → Nat)  (sz : Nat)   (v1 : Int32) (sg : Sg) (lg : Lg) {ro : Int64} {so : Sg} {lo : Lg} (h : fX12_count v1 sg lg = some (ro, so, lo)) : Met l yX12_count wsX12_count rmX12_count (PreZ ZM D vwCl T (tysM T) ad sg lg false [] [.ref (ad 0), .int v1] sz) (QL ZM D vwCl T (tysM T) (va_A (zwd ZM T ad sg lg) sz) (fun z => ad = z) ro so lo) 0 0 (va_A (zwd ZM T ad sg lg) sz) :=
  metZ [.ref (ad 0), .int v1] sz (by decide) rfl (Nat.le_of_ble_eq_true rfl) (fun p e s m below meth c ls C hw hl => tX12_count_0 C v1 sg lg _ _ _ hw hl h)
end ZM
