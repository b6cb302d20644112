section ZM
variable {p : Program} {l : Launch} {e : Env} {s : State} {m : MethodId} {args : Array Value} {below : List Frame} {meth : Method} {c : Code} {D : va_G} {T : Nat → ClassId} {A : Nat → Prop} {ad a : Nat → Nat}
-- PeckYardModel.isWhole()Z
def rmX12_isWhole : Room := { frames := 4, cells := 0, slots := 0, locals := 89 }
theorem kX12_isWhole_f153 : Cond.fieldLink RX12 153 "PeckYardModel" "inHand" "I" ∈ wsX12_isWhole := by decide +kernel
theorem kX12_isWhole_iX12 : ∀ w ∈ u_ws RX12 TX12 18, w ∈ wsX12_isWhole := by decide +kernel
theorem kX12_isWhole_f16 : Cond.fieldLink RX12 16 "PeckYardModel" "hand" "[I" ∈ wsX12_isWhole := by decide +kernel
def fX12_isWhole_33 (r33 : (Int32 × Int32 × Int32 × Sg × Lg) → Option (Int32 × Sg × Lg)) (v1 : Int32) (v2 : Int32) (v3 : Int32) (sg : Sg) (lg : Lg) : Option (Int32 × Sg × Lg) :=
  (if (12 : Int32) ≤ v3 then (if v2 = (sg 0 4) then bnd3 (fX12_counting sg lg) (fun y3 sg4 lg5 => (if v1 = y3 then some ((1 : Int32), sg4, lg5) else some ((0 : Int32), sg4, lg5))) else some ((0 : Int32), sg, lg)) else lt (v2 + ((v1 >>> (v3 &&& 31)) &&& (1 : Int32))) (fun x8 => lt (v3 + (1 : Int32)) (fun x9 => r33 (v1, x8, x9, sg, lg))))
set_option maxHeartbeats 4000000 in
set_option maxRecDepth 100000 in
theorem tX12_isWhole_33 (C : Cx p s m args meth c cX12_isWhole 4 RX12 wsX12_isWhole (some .boolean) D vwCl (tysM T) A false []) {ro : Int32} {so : Sg} {lo : Lg} {r33 : (Int32 × Int32 × Int32 × Sg × Lg) → Option (Int32 × Sg × Lg)} (hr33 : ∀ (v1 : Int32) (v2 : Int32) (v3 : Int32) (sg : Sg) (lg : Lg), r33 (v1, v2, v3, sg, lg) = some (ro, so, lo) → ∀ (H : Heap) (locs : List Loc) (ls : Array Slot), WS ZM D vwCl T ad sg lg A s.heap H locs → lv_has ls 4 [(0, .ref (ad 0)), (1, .int v1), (2, .int v2), (3, .int v3)] → W p l e rmX12_isWhole s m args below meth c H locs 0 0 (MQ below (QI ZM D vwCl T (tysM T) A (fun z => ad = z) ro so lo) args s 0 0 A) (F0 m 33 ls [])) : ∀ (v1 : Int32) (v2 : Int32) (v3 : Int32) (sg : Sg) (lg : Lg), ∀ (H : Heap) (locs : List Loc) (ls : Array Slot), WS ZM D vwCl T ad sg lg A s.heap H locs → lv_has ls 4 [(0, .ref (ad 0)), (1, .int v1), (2, .int v2), (3, .int v3)] → fX12_isWhole_33 r33 v1 v2 v3 sg lg = some (ro, so, lo) → W p l e rmX12_isWhole s m args below meth c H locs 0 0 (MQ below (QI ZM D vwCl T (tysM T) A (fun z => ad = z) ro so lo) args s 0 0 A) (F0 m 33 ls []) := by
  obtain ⟨⟨hx, hb, hml, hown, hts⟩, hr, hlk, hK, hA, hsp⟩ := id C
  intro v1 v2 v3 sg lg H locs ls hw hl h
  unfold fX12_isWhole_33 at h
  refine lv_iload_n hx hb dX12_isWhole_33 rfl (lv_at hl 3 rfl) ?_
  refine lv_bipush (v := (12 : Int32)) hx hb dX12_isWhole_34 (by decide) ?_
  refine lv_icmp_ge (tgt := 53) hx hb dX12_isWhole_36 (by decide) (fun c1 => ?_) (fun c1 => ?_)
  · replace h := ite_t h c1
    refine lv_iload_n hx hb dX12_isWhole_53 rfl (lv_at hl 2 rfl) ?_
    refine lv_aload_n hx hb dX12_isWhole_54 rfl (lv_at hl 0 rfl) ?_
    refine r_getI (ci := 12) (C := RX12) (U := TX12) (N := 18) hx hb hts kX12_isWhole_iX12 hown hK hw 0 (by decide) rfl rfl 4 (by decide) rfl (hts _ kX12_isWhole_f153) (fun _ h9 => h9) dX12_isWhole_55 ?_
    refine lv_icmp_ne (tgt := 73) hx hb dX12_isWhole_58 (by decide) (fun c2 => ?_) (fun c2 => ?_)
    · replace h := ite_f h c2
      refine lv_iconst (v := (0 : Int32)) hx hb dX12_isWhole_73 (by decide) ?_
      cases h
      exact r_zret C hw rfl (by decide) (by decide) (by decide) dX12_isWhole_74
    · replace h := ite_t h c2
      refine lv_iload_n hx hb dX12_isWhole_61 rfl (lv_at hl 1 rfl) ?_
      refine lv_aload_n hx hb dX12_isWhole_62 rfl (lv_at hl 0 rfl) ?_
      obtain ⟨y3, sg4, lg5, hq6, h2⟩ := bnd3_some h
      replace h := h2
      clear h2
      refine r_cVi (As := []) (rest := [.int v1]) C hw 0 (by decide) (ci := 12) rfl rfl (mX12_counting l D T ad  H.size sg lg hq6) (cwV 0 hts gX12_isWhole_X12_counting rfl rfl rfl (by decide +kernel) ⟨Nat.le_of_ble_eq_true rfl, Nat.le_of_ble_eq_true rfl⟩) rfl hl.1 rfl (Nat.le_of_ble_eq_true rfl) dX12_isWhole_63 ⟨Nat.le_of_ble_eq_true rfl, Nat.le_of_ble_eq_true rfl⟩ (fun ad' H locs hp hw => ?_)
      subst hp
      refine W.widen (k := 0) (n := 0) (by decide) (by decide) ?_
      refine lv_icmp_ne (tgt := 73) hx hb dX12_isWhole_66 (by decide) (fun c7 => ?_) (fun c7 => ?_)
      · replace h := ite_f h c7
        refine lv_iconst (v := (0 : Int32)) hx hb dX12_isWhole_73 (by decide) ?_
        cases h
        exact r_zret C hw rfl (by decide) (by decide) (by decide) dX12_isWhole_74
      · replace h := ite_t h c7
        refine lv_iconst (v := (1 : Int32)) hx hb dX12_isWhole_69 (by decide) ?_
        refine lv_goto (tgt := 74) hx hb dX12_isWhole_70 (by decide) ?_
        cases h
        exact r_zret C hw rfl (by decide) (by decide) (by decide) dX12_isWhole_74
  · replace h := ite_f h c1
    refine lv_iload_n hx hb dX12_isWhole_39 rfl (lv_at hl 2 rfl) ?_
    refine lv_iload_n hx hb dX12_isWhole_40 rfl (lv_at hl 1 rfl) ?_
    refine lv_iload_n hx hb dX12_isWhole_41 rfl (lv_at hl 3 rfl) ?_
    refine lv_ishr hx hb dX12_isWhole_42 ?_
    refine lv_iconst (v := (1 : Int32)) hx hb dX12_isWhole_43 (by decide) ?_
    refine lv_iand hx hb dX12_isWhole_44 ?_
    refine lv_iadd hx hb dX12_isWhole_45 ?_
    refine lv_topi (fun x8 ex8 => ?_)
    replace h := lt_get h x8 ex8
    refine lv_istore_n (lv' := [(2, .int x8), (0, .ref (ad 0)), (1, .int v1), (3, .int v3)]) hx hb dX12_isWhole_46 rfl hl (by decide) rfl (fun ls hl => ?_)
    obtain ⟨x9, ex9⟩ : ∃ z : Int32, z = (v3 + (1 : Int32)) := ⟨_, rfl⟩
    replace h := lt_get h x9 ex9
    refine lv_iinc (v := x9) (lv' := [(3, .int x9), (2, .int x8), (0, .ref (ad 0)), (1, .int v1)]) hx hb dX12_isWhole_47 hl (k := 3) rfl (by rw [ex9]; rfl) (by decide) rfl (fun ls hl => ?_)
    refine lv_goto (tgt := 33) hx hb dX12_isWhole_50 (by decide) ?_
    exact hr33 v1 x8 x9 sg lg h _ _ _ hw (lv_sub hl [2, 3, 1, 0] rfl)
def LX12_isWhole_33  : (Int32 × Int32 × Int32 × Sg × Lg) → Option (Int32 × Sg × Lg) := loop (fun rec z => fX12_isWhole_33 rec z.1 z.2.1 z.2.2.1 z.2.2.2.1 z.2.2.2.2)
theorem TX12_isWhole_33 (C : Cx p s m args meth c cX12_isWhole 4 RX12 wsX12_isWhole (some .boolean) D vwCl (tysM T) A false []) {ro : Int32} {so : Sg} {lo : Lg}   : ∀ (v1 : Int32) (v2 : Int32) (v3 : Int32) (sg : Sg) (lg : Lg), LX12_isWhole_33 (v1, v2, v3, sg, lg) = some (ro, so, lo) → ∀ (H : Heap) (locs : List Loc) (ls : Array Slot), WS ZM D vwCl T ad sg lg A s.heap H locs → lv_has ls 4 [(0, .ref (ad 0)), (1, .int v1), (2, .int v2), (3, .int v3)] → W p l e rmX12_isWhole s m args below meth c H locs 0 0 (MQ below (QI ZM D vwCl T (tysM T) A (fun z => ad = z) ro so lo) args s 0 0 A) (F0 m 33 ls []) := by
  have key : ∀ z : (Int32 × Int32 × Int32 × Sg × Lg), LX12_isWhole_33  z = some (ro, so, lo) → ∀ (H : Heap) (locs : List Loc) (ls : Array Slot), WS ZM D vwCl T ad z.2.2.2.1 z.2.2.2.2 A s.heap H locs → lv_has ls 4 [(0, .ref (ad 0)), (1, .int z.1), (2, .int z.2.1), (3, .int z.2.2.1)] → W p l e rmX12_isWhole s m args below meth c H locs 0 0 (MQ below (QI ZM D vwCl T (tysM T) A (fun z => ad = z) ro so lo) args s 0 0 A) (F0 m 33 ls []) := by
    intro z h
    unfold LX12_isWhole_33 at h
    exact loop_ind (fun rec z => fX12_isWhole_33 rec z.1 z.2.1 z.2.2.1 z.2.2.2.1 z.2.2.2.2) (y := (ro, so, lo)) (P := fun z => ∀ (H : Heap) (locs : List Loc) (ls : Array Slot), WS ZM D vwCl T ad z.2.2.2.1 z.2.2.2.2 A s.heap H locs → lv_has ls 4 [(0, .ref (ad 0)), (1, .int z.1), (2, .int z.2.1), (3, .int z.2.2.1)] → W p l e rmX12_isWhole s m args below meth c H locs 0 0 (MQ below (QI ZM D vwCl T (tysM T) A (fun z => ad = z) ro so lo) args s 0 0 A) (F0 m 33 ls [])) (fun rec hrec z h H locs ls hw hl => tX12_isWhole_33 C  (fun v1 v2 v3 sg lg => hrec (v1, v2, v3, sg, lg)) z.1 z.2.1 z.2.2.1 z.2.2.2.1 z.2.2.2.2 H locs ls hw hl h) z h
  exact fun v1 v2 v3 sg lg => key (v1, v2, v3, sg, lg)
def fX12_isWhole_4 (r4 : (Int32 × Int32 × Sg × Lg) → Option (Int32 × Sg × Lg)) (v1 : Int32) (v2 : Int32) (sg : Sg) (lg : Lg) : Option (Int32 × Sg × Lg) :=
  (if (sg 0 4) ≤ v2 then LX12_isWhole_33 (v1, (0 : Int32), (0 : Int32), sg, lg) else gin v2 12 (lt (v1 ||| ((1 : Int32) <<< ((sg 3 v2.toNatClampNeg) &&& 31))) (fun x3 => lt (v2 + (1 : Int32)) (fun x4 => r4 (x3, x4, sg, lg)))))
set_option maxHeartbeats 4000000 in
set_option maxRecDepth 100000 in
theorem tX12_isWhole_4 (C : Cx p s m args meth c cX12_isWhole 4 RX12 wsX12_isWhole (some .boolean) D vwCl (tysM T) A false []) {ro : Int32} {so : Sg} {lo : Lg} {r4 : (Int32 × Int32 × Sg × Lg) → Option (Int32 × Sg × Lg)} (hr4 : ∀ (v1 : Int32) (v2 : Int32) (sg : Sg) (lg : Lg), r4 (v1, v2, sg, lg) = some (ro, so, lo) → ∀ (H : Heap) (locs : List Loc) (ls : Array Slot), WS ZM D vwCl T ad sg lg A s.heap H locs → lv_has ls 4 [(0, .ref (ad 0)), (1, .int v1), (2, .int v2)] → W p l e rmX12_isWhole s m args below meth c H locs 0 0 (MQ below (QI ZM D vwCl T (tysM T) A (fun z => ad = z) ro so lo) args s 0 0 A) (F0 m 4 ls [])) : ∀ (v1 : Int32) (v2 : Int32) (sg : Sg) (lg : Lg), ∀ (H : Heap) (locs : List Loc) (ls : Array Slot), WS ZM D vwCl T ad sg lg A s.heap H locs → lv_has ls 4 [(0, .ref (ad 0)), (1, .int v1), (2, .int v2)] → fX12_isWhole_4 r4 v1 v2 sg lg = some (ro, so, lo) → W p l e rmX12_isWhole s m args below meth c H locs 0 0 (MQ below (QI ZM D vwCl T (tysM T) A (fun z => ad = z) ro so lo) args s 0 0 A) (F0 m 4 ls []) := by
  obtain ⟨⟨hx, hb, hml, hown, hts⟩, hr, hlk, hK, hA, hsp⟩ := id C
  intro v1 v2 sg lg H locs ls hw hl h
  unfold fX12_isWhole_4 at h
  refine lv_iload_n hx hb dX12_isWhole_4 rfl (lv_at hl 2 rfl) ?_
  refine lv_aload_n hx hb dX12_isWhole_5 rfl (lv_at hl 0 rfl) ?_
  refine r_getI (ci := 12) (C := RX12) (U := TX12) (N := 18) hx hb hts kX12_isWhole_iX12 hown hK hw 0 (by decide) rfl rfl 4 (by decide) rfl (hts _ kX12_isWhole_f153) (fun _ h9 => h9) dX12_isWhole_6 ?_
  refine lv_icmp_ge (tgt := 29) hx hb dX12_isWhole_9 (by decide) (fun c1 => ?_) (fun c1 => ?_)
  · replace h := ite_t h c1
    refine lv_iconst (v := (0 : Int32)) hx hb dX12_isWhole_29 (by decide) ?_
    refine lv_istore_n (lv' := [(2, .int (0 : Int32)), (0, .ref (ad 0)), (1, .int v1)]) hx hb dX12_isWhole_30 rfl hl (by decide) rfl (fun ls hl => ?_)
    refine lv_iconst (v := (0 : Int32)) hx hb dX12_isWhole_31 (by decide) ?_
    refine lv_istore_n (lv' := [(3, .int (0 : Int32)), (2, .int (0 : Int32)), (0, .ref (ad 0)), (1, .int v1)]) hx hb dX12_isWhole_32 rfl hl (by decide) rfl (fun ls hl => ?_)
    exact TX12_isWhole_33 C v1 (0 : Int32) (0 : Int32) sg lg h _ _ _ hw (lv_sub hl [2, 3, 1, 0] rfl)
  · replace h := ite_f h c1
    refine lv_iload_n hx hb dX12_isWhole_12 rfl (lv_at hl 1 rfl) ?_
    refine lv_iconst (v := (1 : Int32)) hx hb dX12_isWhole_13 (by decide) ?_
    refine lv_aload_n hx hb dX12_isWhole_14 rfl (lv_at hl 0 rfl) ?_
    refine r_getR (ci := 12) (C := RX12) (U := TX12) (N := 18) hx hb hts kX12_isWhole_iX12 hown hK hw 0 (by decide) rfl rfl 3 (by decide) 3 rfl (hts _ kX12_isWhole_f16) (fun _ h9 => h9) dX12_isWhole_15 ?_
    refine lv_iload_n hx hb dX12_isWhole_18 rfl (lv_at hl 2 rfl) ?_
    have hi2 := (gin_some h).1
    replace h := (gin_some h).2
    refine r_iald hx hb hK hw 3 0 12 (by decide) rfl rfl rfl hi2 dX12_isWhole_19 ?_
    refine lv_ishl hx hb dX12_isWhole_20 ?_
    refine lv_ior hx hb dX12_isWhole_21 ?_
    refine lv_topi (fun x3 ex3 => ?_)
    replace h := lt_get h x3 ex3
    refine lv_istore_n (lv' := [(1, .int x3), (0, .ref (ad 0)), (2, .int v2)]) hx hb dX12_isWhole_22 rfl hl (by decide) rfl (fun ls hl => ?_)
    obtain ⟨x4, ex4⟩ : ∃ z : Int32, z = (v2 + (1 : Int32)) := ⟨_, rfl⟩
    replace h := lt_get h x4 ex4
    refine lv_iinc (v := x4) (lv' := [(2, .int x4), (1, .int x3), (0, .ref (ad 0))]) hx hb dX12_isWhole_23 hl (k := 2) rfl (by rw [ex4]; rfl) (by decide) rfl (fun ls hl => ?_)
    refine lv_goto (tgt := 4) hx hb dX12_isWhole_26 (by decide) ?_
    exact hr4 x3 x4 sg lg h _ _ _ hw (lv_sub hl [2, 1, 0] rfl)
def LX12_isWhole_4  : (Int32 × Int32 × Sg × Lg) → Option (Int32 × Sg × Lg) := loop (fun rec z => fX12_isWhole_4 rec z.1 z.2.1 z.2.2.1 z.2.2.2)
theorem TX12_isWhole_4 (C : Cx p s m args meth c cX12_isWhole 4 RX12 wsX12_isWhole (some .boolean) D vwCl (tysM T) A false []) {ro : Int32} {so : Sg} {lo : Lg}   : ∀ (v1 : Int32) (v2 : Int32) (sg : Sg) (lg : Lg), LX12_isWhole_4 (v1, v2, sg, lg) = some (ro, so, lo) → ∀ (H : Heap) (locs : List Loc) (ls : Array Slot), WS ZM D vwCl T ad sg lg A s.heap H locs → lv_has ls 4 [(0, .ref (ad 0)), (1, .int v1), (2, .int v2)] → W p l e rmX12_isWhole s m args below meth c H locs 0 0 (MQ below (QI ZM D vwCl T (tysM T) A (fun z => ad = z) ro so lo) args s 0 0 A) (F0 m 4 ls []) := by
  have key : ∀ z : (Int32 × Int32 × Sg × Lg), LX12_isWhole_4  z = some (ro, so, lo) → ∀ (H : Heap) (locs : List Loc) (ls : Array Slot), WS ZM D vwCl T ad z.2.2.1 z.2.2.2 A s.heap H locs → lv_has ls 4 [(0, .ref (ad 0)), (1, .int z.1), (2, .int z.2.1)] → W p l e rmX12_isWhole s m args below meth c H locs 0 0 (MQ below (QI ZM D vwCl T (tysM T) A (fun z => ad = z) ro so lo) args s 0 0 A) (F0 m 4 ls []) := by
    intro z h
    unfold LX12_isWhole_4 at h
    exact loop_ind (fun rec z => fX12_isWhole_4 rec z.1 z.2.1 z.2.2.1 z.2.2.2) (y := (ro, so, lo)) (P := fun z => ∀ (H : Heap) (locs : List Loc) (ls : Array Slot), WS ZM D vwCl T ad z.2.2.1 z.2.2.2 A s.heap H locs → lv_has ls 4 [(0, .ref (ad 0)), (1, .int z.1), (2, .int z.2.1)] → W p l e rmX12_isWhole s m args below meth c H locs 0 0 (MQ below (QI ZM D vwCl T (tysM T) A (fun z => ad = z) ro so lo) args s 0 0 A) (F0 m 4 ls [])) (fun rec hrec z h H locs ls hw hl => tX12_isWhole_4 C  (fun v1 v2 sg lg => hrec (v1, v2, sg, lg)) z.1 z.2.1 z.2.2.1 z.2.2.2 H locs ls hw hl h) z h
  exact fun v1 v2 sg lg => key (v1, v2, sg, lg)
def fX12_isWhole  (sg : Sg) (lg : Lg) : Option (Int32 × Sg × Lg) :=
  LX12_isWhole_4 ((0 : Int32), (0 : Int32), sg, lg)
set_option maxHeartbeats 4000000 in
set_option maxRecDepth 100000 in
theorem tX12_isWhole_0 (C : Cx p s m args meth c cX12_isWhole 4 RX12 wsX12_isWhole (some .boolean) D vwCl (tysM T) A false []) {ro : Int32} {so : Sg} {lo : Lg}   : ∀ (sg : Sg) (lg : Lg), ∀ (H : Heap) (locs : List Loc) (ls : Array Slot), WS ZM D vwCl T ad sg lg A s.heap H locs → lv_has ls 4 [(0, .ref (ad 0))] → fX12_isWhole sg lg = some (ro, so, lo) → W p l e rmX12_isWhole s m args below meth c H locs 0 0 (MQ below (QI ZM D vwCl T (tysM T) A (fun z => ad = z) ro so lo) args s 0 0 A) (F0 m 0 ls []) := by
  obtain ⟨⟨hx, hb, hml, hown, hts⟩, hr, hlk, hK, hA, hsp⟩ := id C
  intro sg lg H locs ls hw hl h
  unfold fX12_isWhole at h
  refine lv_iconst (v := (0 : Int32)) hx hb dX12_isWhole_0 (by decide) ?_
  refine lv_istore_n (lv' := [(1, .int (0 : Int32)), (0, .ref (ad 0))]) hx hb dX12_isWhole_1 rfl hl (by decide) rfl (fun ls hl => ?_)
  refine lv_iconst (v := (0 : Int32)) hx hb dX12_isWhole_2 (by decide) ?_
  refine lv_istore_n (lv' := [(2, .int (0 : Int32)), (1, .int (0 : Int32)), (0, .ref (ad 0))]) hx hb dX12_isWhole_3 rfl hl (by decide) rfl (fun ls hl => ?_)
  exact TX12_isWhole_4 C (0 : Int32) (0 : Int32) sg lg h _ _ _ hw (lv_sub hl [2, 1, 0] rfl)
theorem mX12_isWhole (l : Launch) (D : va_G) (T : Nat → ClassId) (ad : Nat → Nat)  (sz : Nat)   (sg : Sg) (lg : Lg) {ro : Int32} {so : Sg} {lo : Lg} (h : fX12_isWhole sg lg = some (ro, so, lo)) : Met l yX12_isWhole wsX12_isWhole rmX12_isWhole (PreZ ZM D vwCl T (tysM T) ad sg lg false [] [.ref (ad 0)] sz) (QI ZM D vwCl T (tysM T) (va_A (zwd ZM T ad sg lg) sz) (fun z => ad = z) ro so lo) 0 0 (va_A (zwd ZM T ad sg lg) sz) :=
  metZ [.ref (ad 0)] sz (by decide) rfl (Nat.le_of_ble_eq_true rfl) (fun p e s m below meth c ls C hw hl => tX12_isWhole_0 C sg lg _ _ _ hw hl h)
-- PeckYardModel.number()J
def rmX12_number : Room := { frames := 8, cells := 0, slots := 0, locals := 190 }
theorem kX12_number_f153 : Cond.fieldLink RX12 153 "PeckYardModel" "inHand" "I" ∈ wsX12_number := by decide +kernel
theorem kX12_number_iX12 : ∀ w ∈ u_ws RX12 TX12 18, w ∈ wsX12_number := by decide +kernel
theorem kX12_number_f20 : Cond.fieldLink RX12 20 "PeckYardModel" "leastOf" "[J" ∈ wsX12_number := by decide +kernel
theorem kX12_number_c131 : Cond.constantLong RX12 131 (1000000000000000) ∈ wsX12_number := by decide +kernel
theorem kX12_number_c112 : Cond.constantLong RX12 112 (-2000000005) ∈ wsX12_number := by decide +kernel
theorem kX12_number_f16 : Cond.fieldLink RX12 16 "PeckYardModel" "hand" "[I" ∈ wsX12_number := by decide +kernel
theorem kX12_number_f24 : Cond.fieldLink RX12 24 "PeckYardModel" "waysOf" "[J" ∈ wsX12_number := by decide +kernel
theorem kX12_number_c61 : Cond.constantLong RX12 61 (-2000000002) ∈ wsX12_number := by decide +kernel
def fX12_number_105 (r28 : (Int32 × Int32 × Int64 × Int32 × Sg × Lg) → Option (Int64 × Sg × Lg)) (r60 : (Int32 × Int32 × Int64 × Int32 × Int32 × Sg × Lg) → Option (Int64 × Sg × Lg)) (v1 : Int32) (v2 : Int32) (v5 : Int32) (v6 : Int32) (w0 : Int64) (w1 : Int64) (sg : Sg) (lg : Lg) : Option (Int64 × Sg × Lg) :=
  lt (w1 + w0) (fun x1 => lt (v6 + (1 : Int32)) (fun x2 => r60 (v1, v2, x1, v5, x2, sg, lg)))
set_option maxHeartbeats 4000000 in
set_option maxRecDepth 100000 in
theorem tX12_number_105 (C : Cx p s m args meth c cX12_number 7 RX12 wsX12_number (some .long) D vwCl (tysM T) A false []) {ro : Int64} {so : Sg} {lo : Lg} {r28 : (Int32 × Int32 × Int64 × Int32 × Sg × Lg) → Option (Int64 × Sg × Lg)} {r60 : (Int32 × Int32 × Int64 × Int32 × Int32 × Sg × Lg) → Option (Int64 × Sg × Lg)} (hr28 : ∀ (v1 : Int32) (v2 : Int32) (v3 : Int64) (v5 : Int32) (sg : Sg) (lg : Lg), r28 (v1, v2, v3, v5, sg, lg) = some (ro, so, lo) → ∀ (H : Heap) (locs : List Loc) (ls : Array Slot), WS ZM D vwCl T ad sg lg A s.heap H locs → lv_has ls 7 [(0, .ref (ad 0)), (1, .int v1), (2, .int v2), (3, .long v3), (5, .int v5)] → W p l e rmX12_number s m args below meth c H locs 0 0 (MQ below (QL ZM D vwCl T (tysM T) A (fun z => ad = z) ro so lo) args s 0 0 A) (F0 m 28 ls [])) (hr60 : ∀ (v1 : Int32) (v2 : Int32) (v3 : Int64) (v5 : Int32) (v6 : Int32) (sg : Sg) (lg : Lg), r60 (v1, v2, v3, v5, v6, sg, lg) = some (ro, so, lo) → ∀ (H : Heap) (locs : List Loc) (ls : Array Slot), WS ZM D vwCl T ad sg lg A s.heap H locs → lv_has ls 7 [(0, .ref (ad 0)), (1, .int v1), (2, .int v2), (3, .long v3), (5, .int v5), (6, .int v6)] → W p l e rmX12_number s m args below meth c H locs 0 0 (MQ below (QL ZM D vwCl T (tysM T) A (fun z => ad = z) ro so lo) args s 0 0 A) (F0 m 60 ls [])) : ∀ (v1 : Int32) (v2 : Int32) (v5 : Int32) (v6 : Int32) (w0 : Int64) (w1 : Int64) (sg : Sg) (lg : Lg), ∀ (H : Heap) (locs : List Loc) (ls : Array Slot), WS ZM D vwCl T ad sg lg A s.heap H locs → lv_has ls 7 [(0, .ref (ad 0)), (1, .int v1), (2, .int v2), (5, .int v5), (6, .int v6)] → fX12_number_105 r28 r60 v1 v2 v5 v6 w0 w1 sg lg = some (ro, so, lo) → W p l e rmX12_number s m args below meth c H locs 0 0 (MQ below (QL ZM D vwCl T (tysM T) A (fun z => ad = z) ro so lo) args s 0 0 A) (F0 m 105 ls [.long w0, .long w1]) := by
  obtain ⟨⟨hx, hb, hml, hown, hts⟩, hr, hlk, hK, hA, hsp⟩ := id C
  intro v1 v2 v5 v6 w0 w1 sg lg H locs ls hw hl h
  unfold fX12_number_105 at h
  refine lv_ladd hx hb dX12_number_105 ?_
  refine lv_topl (fun x1 ex1 => ?_)
  replace h := lt_get h x1 ex1
  refine lv_lstore_n (lv' := [(3, .long x1), (0, .ref (ad 0)), (1, .int v1), (2, .int v2), (5, .int v5), (6, .int v6)]) hx hb dX12_number_106 rfl hl (by decide) rfl (fun ls hl => ?_)
  obtain ⟨x2, ex2⟩ : ∃ z : Int32, z = (v6 + (1 : Int32)) := ⟨_, rfl⟩
  replace h := lt_get h x2 ex2
  refine lv_iinc (v := x2) (lv' := [(6, .int x2), (3, .long x1), (0, .ref (ad 0)), (1, .int v1), (2, .int v2), (5, .int v5)]) hx hb dX12_number_107 hl (k := 5) rfl (by rw [ex2]; rfl) (by decide) rfl (fun ls hl => ?_)
  refine lv_goto (tgt := 60) hx hb dX12_number_110 (by decide) ?_
  exact hr60 v1 v2 x1 v5 x2 sg lg h _ _ _ hw (lv_sub hl [2, 3, 4, 1, 5, 0] rfl)
def fX12_number_60 (r28 : (Int32 × Int32 × Int64 × Int32 × Sg × Lg) → Option (Int64 × Sg × Lg)) (r60 : (Int32 × Int32 × Int64 × Int32 × Int32 × Sg × Lg) → Option (Int64 × Sg × Lg)) (v1 : Int32) (v2 : Int32) (v3 : Int64) (v5 : Int32) (v6 : Int32) (sg : Sg) (lg : Lg) : Option (Int64 × Sg × Lg) :=
  gin v5 12 ((if (sg 3 v5.toNatClampNeg) ≤ v6 then gin v5 12 (lt (v1 ||| ((1 : Int32) <<< ((sg 3 v5.toNatClampNeg) &&& 31))) (fun x4 => gin v5 12 (lt (sg 3 v5.toNatClampNeg) (fun x6 => lt (v5 + (1 : Int32)) (fun x7 => r28 (x4, x6, v3, x7, sg, lg)))))) else bnd3 (fX12_isBest v6 v1 v2 sg lg) (fun y8 sg9 lg10 => (if y8 = 0 then fX12_number_105 r28 r60 v1 v2 v5 v6 (0 : Int64) v3 sg9 lg10 else lt (((13 : Int32) * (v1 ||| ((1 : Int32) <<< (v6 &&& 31)))) + v6) (fun x13 => gin x13 53248 (fX12_number_105 r28 r60 v1 v2 v5 v6 (lg10 5 x13.toNatClampNeg) v3 sg9 lg10))))))
set_option maxHeartbeats 4000000 in
set_option maxRecDepth 100000 in
theorem tX12_number_60 (C : Cx p s m args meth c cX12_number 7 RX12 wsX12_number (some .long) D vwCl (tysM T) A false []) {ro : Int64} {so : Sg} {lo : Lg} {r28 : (Int32 × Int32 × Int64 × Int32 × Sg × Lg) → Option (Int64 × Sg × Lg)} {r60 : (Int32 × Int32 × Int64 × Int32 × Int32 × Sg × Lg) → Option (Int64 × Sg × Lg)} (hr28 : ∀ (v1 : Int32) (v2 : Int32) (v3 : Int64) (v5 : Int32) (sg : Sg) (lg : Lg), r28 (v1, v2, v3, v5, sg, lg) = some (ro, so, lo) → ∀ (H : Heap) (locs : List Loc) (ls : Array Slot), WS ZM D vwCl T ad sg lg A s.heap H locs → lv_has ls 7 [(0, .ref (ad 0)), (1, .int v1), (2, .int v2), (3, .long v3), (5, .int v5)] → W p l e rmX12_number s m args below meth c H locs 0 0 (MQ below (QL ZM D vwCl T (tysM T) A (fun z => ad = z) ro so lo) args s 0 0 A) (F0 m 28 ls [])) (hr60 : ∀ (v1 : Int32) (v2 : Int32) (v3 : Int64) (v5 : Int32) (v6 : Int32) (sg : Sg) (lg : Lg), r60 (v1, v2, v3, v5, v6, sg, lg) = some (ro, so, lo) → ∀ (H : Heap) (locs : List Loc) (ls : Array Slot), WS ZM D vwCl T ad sg lg A s.heap H locs → lv_has ls 7 [(0, .ref (ad 0)), (1, .int v1), (2, .int v2), (3, .long v3), (5, .int v5), (6, .int v6)] → W p l e rmX12_number s m args below meth c H locs 0 0 (MQ below (QL ZM D vwCl T (tysM T) A (fun z => ad = z) ro so lo) args s 0 0 A) (F0 m 60 ls [])) : ∀ (v1 : Int32) (v2 : Int32) (v3 : Int64) (v5 : Int32) (v6 : Int32) (sg : Sg) (lg : Lg), ∀ (H : Heap) (locs : List Loc) (ls : Array Slot), WS ZM D vwCl T ad sg lg A s.heap H locs → lv_has ls 7 [(0, .ref (ad 0)), (1, .int v1), (2, .int v2), (3, .long v3), (5, .int v5), (6, .int v6)] → fX12_number_60 r28 r60 v1 v2 v3 v5 v6 sg lg = some (ro, so, lo) → W p l e rmX12_number s m args below meth c H locs 0 0 (MQ below (QL ZM D vwCl T (tysM T) A (fun z => ad = z) ro so lo) args s 0 0 A) (F0 m 60 ls []) := by
  obtain ⟨⟨hx, hb, hml, hown, hts⟩, hr, hlk, hK, hA, hsp⟩ := id C
  intro v1 v2 v3 v5 v6 sg lg H locs ls hw hl h
  unfold fX12_number_60 at h
  refine lv_iload hx hb dX12_number_60 (lv_at hl 5 rfl) ?_
  refine lv_aload_n hx hb dX12_number_62 rfl (lv_at hl 0 rfl) ?_
  refine r_getR (ci := 12) (C := RX12) (U := TX12) (N := 18) hx hb hts kX12_number_iX12 hown hK hw 0 (by decide) rfl rfl 3 (by decide) 3 rfl (hts _ kX12_number_f16) (fun _ h9 => h9) dX12_number_63 ?_
  refine lv_iload hx hb dX12_number_66 (lv_at hl 4 rfl) ?_
  have hi1 := (gin_some h).1
  replace h := (gin_some h).2
  refine r_iald hx hb hK hw 3 0 12 (by decide) rfl rfl rfl hi1 dX12_number_68 ?_
  refine lv_icmp_ge (tgt := 113) hx hb dX12_number_69 (by decide) (fun c2 => ?_) (fun c2 => ?_)
  · replace h := ite_t h c2
    refine lv_iload_n hx hb dX12_number_113 rfl (lv_at hl 1 rfl) ?_
    refine lv_iconst (v := (1 : Int32)) hx hb dX12_number_114 (by decide) ?_
    refine lv_aload_n hx hb dX12_number_115 rfl (lv_at hl 0 rfl) ?_
    refine r_getR (ci := 12) (C := RX12) (U := TX12) (N := 18) hx hb hts kX12_number_iX12 hown hK hw 0 (by decide) rfl rfl 3 (by decide) 3 rfl (hts _ kX12_number_f16) (fun _ h9 => h9) dX12_number_116 ?_
    refine lv_iload hx hb dX12_number_119 (lv_at hl 4 rfl) ?_
    have hi3 := (gin_some h).1
    replace h := (gin_some h).2
    refine r_iald hx hb hK hw 3 0 12 (by decide) rfl rfl rfl hi3 dX12_number_121 ?_
    refine lv_ishl hx hb dX12_number_122 ?_
    refine lv_ior hx hb dX12_number_123 ?_
    refine lv_topi (fun x4 ex4 => ?_)
    replace h := lt_get h x4 ex4
    refine lv_istore_n (lv' := [(1, .int x4), (0, .ref (ad 0)), (2, .int v2), (3, .long v3), (5, .int v5), (6, .int v6)]) hx hb dX12_number_124 rfl hl (by decide) rfl (fun ls hl => ?_)
    refine lv_aload_n hx hb dX12_number_125 rfl (lv_at hl 1 rfl) ?_
    refine r_getR (ci := 12) (C := RX12) (U := TX12) (N := 18) hx hb hts kX12_number_iX12 hown hK hw 0 (by decide) rfl rfl 3 (by decide) 3 rfl (hts _ kX12_number_f16) (fun _ h9 => h9) dX12_number_126 ?_
    refine lv_iload hx hb dX12_number_129 (lv_at hl 4 rfl) ?_
    have hi5 := (gin_some h).1
    replace h := (gin_some h).2
    refine r_iald hx hb hK hw 3 0 12 (by decide) rfl rfl rfl hi5 dX12_number_131 ?_
    refine lv_topi (fun x6 ex6 => ?_)
    replace h := lt_get h x6 ex6
    refine lv_istore_n (lv' := [(2, .int x6), (1, .int x4), (0, .ref (ad 0)), (3, .long v3), (5, .int v5), (6, .int v6)]) hx hb dX12_number_132 rfl hl (by decide) rfl (fun ls hl => ?_)
    obtain ⟨x7, ex7⟩ : ∃ z : Int32, z = (v5 + (1 : Int32)) := ⟨_, rfl⟩
    replace h := lt_get h x7 ex7
    refine lv_iinc (v := x7) (lv' := [(5, .int x7), (2, .int x6), (1, .int x4), (0, .ref (ad 0)), (3, .long v3), (6, .int v6)]) hx hb dX12_number_133 hl (k := 4) rfl (by rw [ex7]; rfl) (by decide) rfl (fun ls hl => ?_)
    refine lv_goto (tgt := 28) hx hb dX12_number_136 (by decide) ?_
    exact hr28 x4 x6 v3 x7 sg lg h _ _ _ hw (lv_sub hl [3, 2, 1, 4, 0] rfl)
  · replace h := ite_f h c2
    refine lv_lload_n hx hb dX12_number_72 rfl (lv_at hl 3 rfl) ?_
    refine lv_aload_n hx hb dX12_number_73 rfl (lv_at hl 0 rfl) ?_
    refine lv_iload hx hb dX12_number_74 (lv_at hl 5 rfl) ?_
    refine lv_iload_n hx hb dX12_number_76 rfl (lv_at hl 1 rfl) ?_
    refine lv_iload_n hx hb dX12_number_77 rfl (lv_at hl 2 rfl) ?_
    obtain ⟨y8, sg9, lg10, hq11, h2⟩ := bnd3_some h
    replace h := h2
    clear h2
    refine r_cVi (As := [.int v6, .int v1, .int v2]) (rest := [.long v3]) C hw 0 (by decide) (ci := 12) rfl rfl (mX12_isBest l D T ad  H.size v6 v1 v2 sg lg hq11) (cwV 3 hts gX12_number_X12_isBest rfl rfl rfl (by decide +kernel) ⟨Nat.le_of_ble_eq_true rfl, Nat.le_of_ble_eq_true rfl⟩) rfl hl.1 rfl (Nat.le_of_ble_eq_true rfl) dX12_number_78 ⟨Nat.le_of_ble_eq_true rfl, Nat.le_of_ble_eq_true rfl⟩ (fun ad' H locs hp hw => ?_)
    subst hp
    refine W.widen (k := 0) (n := 0) (by decide) (by decide) ?_
    refine lv_if_eq (tgt := 104) hx hb dX12_number_81 (by decide) (fun c12 => ?_) (fun c12 => ?_)
    · replace h := ite_t h c12
      refine lv_lconst (v := (0 : Int64)) hx hb dX12_number_104 (by decide) ?_
      exact tX12_number_105 C hr28 hr60 v1 v2 v5 v6 (0 : Int64) v3 sg9 lg10 _ _ _ hw (lv_sub hl [0, 1, 2, 4, 5] rfl) h
    · replace h := ite_f h c12
      refine lv_aload_n hx hb dX12_number_84 rfl (lv_at hl 0 rfl) ?_
      refine r_getR (ci := 12) (C := RX12) (U := TX12) (N := 18) hx hb hts kX12_number_iX12 hown hK hw 0 (by decide) rfl rfl 6 (by decide) 5 rfl (hts _ kX12_number_f24) (fun _ h9 => h9) dX12_number_85 ?_
      refine lv_bipush (v := (13 : Int32)) hx hb dX12_number_88 (by decide) ?_
      refine lv_iload_n hx hb dX12_number_90 rfl (lv_at hl 1 rfl) ?_
      refine lv_iconst (v := (1 : Int32)) hx hb dX12_number_91 (by decide) ?_
      refine lv_iload hx hb dX12_number_92 (lv_at hl 5 rfl) ?_
      refine lv_ishl hx hb dX12_number_94 ?_
      refine lv_ior hx hb dX12_number_95 ?_
      refine lv_imul hx hb dX12_number_96 ?_
      refine lv_iload hx hb dX12_number_97 (lv_at hl 5 rfl) ?_
      refine lv_iadd hx hb dX12_number_99 ?_
      refine lv_topi (fun x13 ex13 => ?_)
      replace h := lt_get h x13 ex13
      have hi14 := (gin_some h).1
      replace h := (gin_some h).2
      refine r_lald hx hb hK hw 5 2 53248 (by decide) rfl rfl rfl hi14 dX12_number_100 ?_
      refine lv_goto (tgt := 105) hx hb dX12_number_101 (by decide) ?_
      exact tX12_number_105 C hr28 hr60 v1 v2 v5 v6 (lg10 5 x13.toNatClampNeg) v3 sg9 lg10 _ _ _ hw (lv_sub hl [0, 1, 2, 4, 5] rfl) h
def LX12_number_60 (r28 : (Int32 × Int32 × Int64 × Int32 × Sg × Lg) → Option (Int64 × Sg × Lg)) : (Int32 × Int32 × Int64 × Int32 × Int32 × Sg × Lg) → Option (Int64 × Sg × Lg) := loop (fun rec z => fX12_number_60 r28 rec z.1 z.2.1 z.2.2.1 z.2.2.2.1 z.2.2.2.2.1 z.2.2.2.2.2.1 z.2.2.2.2.2.2)
theorem TX12_number_60 (C : Cx p s m args meth c cX12_number 7 RX12 wsX12_number (some .long) D vwCl (tysM T) A false []) {ro : Int64} {so : Sg} {lo : Lg} {r28 : (Int32 × Int32 × Int64 × Int32 × Sg × Lg) → Option (Int64 × Sg × Lg)} (hr28 : ∀ (v1 : Int32) (v2 : Int32) (v3 : Int64) (v5 : Int32) (sg : Sg) (lg : Lg), r28 (v1, v2, v3, v5, sg, lg) = some (ro, so, lo) → ∀ (H : Heap) (locs : List Loc) (ls : Array Slot), WS ZM D vwCl T ad sg lg A s.heap H locs → lv_has ls 7 [(0, .ref (ad 0)), (1, .int v1), (2, .int v2), (3, .long v3), (5, .int v5)] → W p l e rmX12_number s m args below meth c H locs 0 0 (MQ below (QL ZM D vwCl T (tysM T) A (fun z => ad = z) ro so lo) args s 0 0 A) (F0 m 28 ls [])) : ∀ (v1 : Int32) (v2 : Int32) (v3 : Int64) (v5 : Int32) (v6 : Int32) (sg : Sg) (lg : Lg), LX12_number_60 r28 (v1, v2, v3, v5, v6, sg, lg) = some (ro, so, lo) → ∀ (H : Heap) (locs : List Loc) (ls : Array Slot), WS ZM D vwCl T ad sg lg A s.heap H locs → lv_has ls 7 [(0, .ref (ad 0)), (1, .int v1), (2, .int v2), (3, .long v3), (5, .int v5), (6, .int v6)] → W p l e rmX12_number s m args below meth c H locs 0 0 (MQ below (QL ZM D vwCl T (tysM T) A (fun z => ad = z) ro so lo) args s 0 0 A) (F0 m 60 ls []) := by
  have key : ∀ z : (Int32 × Int32 × Int64 × Int32 × Int32 × Sg × Lg), LX12_number_60 r28 z = some (ro, so, lo) → ∀ (H : Heap) (locs : List Loc) (ls : Array Slot), WS ZM D vwCl T ad z.2.2.2.2.2.1 z.2.2.2.2.2.2 A s.heap H locs → lv_has ls 7 [(0, .ref (ad 0)), (1, .int z.1), (2, .int z.2.1), (3, .long z.2.2.1), (5, .int z.2.2.2.1), (6, .int z.2.2.2.2.1)] → W p l e rmX12_number s m args below meth c H locs 0 0 (MQ below (QL ZM D vwCl T (tysM T) A (fun z => ad = z) ro so lo) args s 0 0 A) (F0 m 60 ls []) := by
    intro z h
    unfold LX12_number_60 at h
    exact loop_ind (fun rec z => fX12_number_60 r28 rec z.1 z.2.1 z.2.2.1 z.2.2.2.1 z.2.2.2.2.1 z.2.2.2.2.2.1 z.2.2.2.2.2.2) (y := (ro, so, lo)) (P := fun z => ∀ (H : Heap) (locs : List Loc) (ls : Array Slot), WS ZM D vwCl T ad z.2.2.2.2.2.1 z.2.2.2.2.2.2 A s.heap H locs → lv_has ls 7 [(0, .ref (ad 0)), (1, .int z.1), (2, .int z.2.1), (3, .long z.2.2.1), (5, .int z.2.2.2.1), (6, .int z.2.2.2.2.1)] → W p l e rmX12_number s m args below meth c H locs 0 0 (MQ below (QL ZM D vwCl T (tysM T) A (fun z => ad = z) ro so lo) args s 0 0 A) (F0 m 60 ls [])) (fun rec hrec z h H locs ls hw hl => tX12_number_60 C hr28 (fun v1 v2 v3 v5 v6 sg lg => hrec (v1, v2, v3, v5, v6, sg, lg)) z.1 z.2.1 z.2.2.1 z.2.2.2.1 z.2.2.2.2.1 z.2.2.2.2.2.1 z.2.2.2.2.2.2 H locs ls hw hl h) z h
  exact fun v1 v2 v3 v5 v6 sg lg => key (v1, v2, v3, v5, v6, sg, lg)
def fX12_number_28 (r28 : (Int32 × Int32 × Int64 × Int32 × Sg × Lg) → Option (Int64 × Sg × Lg)) (v1 : Int32) (v2 : Int32) (v3 : Int64) (v5 : Int32) (sg : Sg) (lg : Lg) : Option (Int64 × Sg × Lg) :=
  (if (sg 0 4) ≤ v5 then bnd3 (fX12_begun sg lg) (fun y2 sg3 lg4 => gin y2 53248 ((if (lg4 4 y2.toNatClampNeg) < (1000000000000000 : Int64) then some (v3, sg3, lg4) else some ((-2000000005 : Int64), sg3, lg4)))) else gin v5 12 (bnd3 (fX12_isBest (sg 3 v5.toNatClampNeg) v1 v2 sg lg) (fun y9 sg10 lg11 => (if y9 = 0 then some ((-2000000005 : Int64), sg10, lg11) else LX12_number_60 r28 (v1, v2, v3, v5, (0 : Int32), sg10, lg11)))))
set_option maxHeartbeats 4000000 in
set_option maxRecDepth 100000 in
theorem tX12_number_28 (C : Cx p s m args meth c cX12_number 7 RX12 wsX12_number (some .long) D vwCl (tysM T) A false []) {ro : Int64} {so : Sg} {lo : Lg} {r28 : (Int32 × Int32 × Int64 × Int32 × Sg × Lg) → Option (Int64 × Sg × Lg)} (hr28 : ∀ (v1 : Int32) (v2 : Int32) (v3 : Int64) (v5 : Int32) (sg : Sg) (lg : Lg), r28 (v1, v2, v3, v5, sg, lg) = some (ro, so, lo) → ∀ (H : Heap) (locs : List Loc) (ls : Array Slot), WS ZM D vwCl T ad sg lg A s.heap H locs → lv_has ls 7 [(0, .ref (ad 0)), (1, .int v1), (2, .int v2), (3, .long v3), (5, .int v5)] → W p l e rmX12_number s m args below meth c H locs 0 0 (MQ below (QL ZM D vwCl T (tysM T) A (fun z => ad = z) ro so lo) args s 0 0 A) (F0 m 28 ls [])) : ∀ (v1 : Int32) (v2 : Int32) (v3 : Int64) (v5 : Int32) (sg : Sg) (lg : Lg), ∀ (H : Heap) (locs : List Loc) (ls : Array Slot), WS ZM D vwCl T ad sg lg A s.heap H locs → lv_has ls 7 [(0, .ref (ad 0)), (1, .int v1), (2, .int v2), (3, .long v3), (5, .int v5)] → fX12_number_28 r28 v1 v2 v3 v5 sg lg = some (ro, so, lo) → W p l e rmX12_number s m args below meth c H locs 0 0 (MQ below (QL ZM D vwCl T (tysM T) A (fun z => ad = z) ro so lo) args s 0 0 A) (F0 m 28 ls []) := by
  obtain ⟨⟨hx, hb, hml, hown, hts⟩, hr, hlk, hK, hA, hsp⟩ := id C
  intro v1 v2 v3 v5 sg lg H locs ls hw hl h
  unfold fX12_number_28 at h
  refine lv_iload hx hb dX12_number_28 (lv_at hl 4 rfl) ?_
  refine lv_aload_n hx hb dX12_number_30 rfl (lv_at hl 0 rfl) ?_
  refine r_getI (ci := 12) (C := RX12) (U := TX12) (N := 18) hx hb hts kX12_number_iX12 hown hK hw 0 (by decide) rfl rfl 4 (by decide) rfl (hts _ kX12_number_f153) (fun _ h9 => h9) dX12_number_31 ?_
  refine lv_icmp_ge (tgt := 139) hx hb dX12_number_34 (by decide) (fun c1 => ?_) (fun c1 => ?_)
  · replace h := ite_t h c1
    refine lv_aload_n hx hb dX12_number_139 rfl (lv_at hl 0 rfl) ?_
    refine r_getR (ci := 12) (C := RX12) (U := TX12) (N := 18) hx hb hts kX12_number_iX12 hown hK hw 0 (by decide) rfl rfl 5 (by decide) 4 rfl (hts _ kX12_number_f20) (fun _ h9 => h9) dX12_number_140 ?_
    obtain ⟨y2, sg3, lg4, hq5, h2⟩ := bnd3_some h
    replace h := h2
    clear h2
    refine r_cSi (As := []) (rest := [.ref (ad 4)]) C hw (mX12_begun l D T ad  H.size sg lg hq5) (va_cwS 0 hts gX12_number_X12_begun rfl rfl rfl (by decide +kernel) ⟨Nat.le_of_ble_eq_true rfl, Nat.le_of_ble_eq_true rfl⟩) rfl hl.1 rfl (Nat.le_of_ble_eq_true rfl) dX12_number_143 ⟨Nat.le_of_ble_eq_true rfl, Nat.le_of_ble_eq_true rfl⟩ (fun ad' H locs hp hw => ?_)
    subst hp
    refine W.widen (k := 0) (n := 0) (by decide) (by decide) ?_
    have hi6 := (gin_some h).1
    replace h := (gin_some h).2
    refine r_lald hx hb hK hw 4 2 53248 (by decide) rfl rfl rfl hi6 dX12_number_146 ?_
    refine lv_ldc2 hx hb hown (hts _ kX12_number_c131) dX12_number_147 ?_
    refine W.lcmp hx hb dX12_number_150 ?_
    refine lv_if_lt (tgt := 160) hx hb dX12_number_151 (by decide) (fun c7 => ?_) (fun c7 => ?_)
    · replace h := ite_t h ((lg_cmp_lt _ _).mp c7)
      refine lv_lload_n hx hb dX12_number_160 rfl (lv_at hl 3 rfl) ?_
      cases h
      exact r_lret C hw rfl (by decide) (by decide) dX12_number_161
    · replace h := ite_f h (fun z => c7 ((lg_cmp_lt _ _).mpr z))
      refine lv_ldc2 hx hb hown (hts _ kX12_number_c112) dX12_number_154 ?_
      refine lv_goto (tgt := 161) hx hb dX12_number_157 (by decide) ?_
      cases h
      exact r_lret C hw rfl (by decide) (by decide) dX12_number_161
  · replace h := ite_f h c1
    refine lv_aload_n hx hb dX12_number_37 rfl (lv_at hl 0 rfl) ?_
    refine lv_aload_n hx hb dX12_number_38 rfl (lv_at hl 0 rfl) ?_
    refine r_getR (ci := 12) (C := RX12) (U := TX12) (N := 18) hx hb hts kX12_number_iX12 hown hK hw 0 (by decide) rfl rfl 3 (by decide) 3 rfl (hts _ kX12_number_f16) (fun _ h9 => h9) dX12_number_39 ?_
    refine lv_iload hx hb dX12_number_42 (lv_at hl 4 rfl) ?_
    have hi8 := (gin_some h).1
    replace h := (gin_some h).2
    refine r_iald hx hb hK hw 3 0 12 (by decide) rfl rfl rfl hi8 dX12_number_44 ?_
    refine lv_iload_n hx hb dX12_number_45 rfl (lv_at hl 1 rfl) ?_
    refine lv_iload_n hx hb dX12_number_46 rfl (lv_at hl 2 rfl) ?_
    obtain ⟨y9, sg10, lg11, hq12, h2⟩ := bnd3_some h
    replace h := h2
    clear h2
    refine r_cVi (As := [.int (sg 3 v5.toNatClampNeg), .int v1, .int v2]) (rest := []) C hw 0 (by decide) (ci := 12) rfl rfl (mX12_isBest l D T ad  H.size (sg 3 v5.toNatClampNeg) v1 v2 sg lg hq12) (cwV 3 hts gX12_number_X12_isBest rfl rfl rfl (by decide +kernel) ⟨Nat.le_of_ble_eq_true rfl, Nat.le_of_ble_eq_true rfl⟩) rfl hl.1 rfl (Nat.le_of_ble_eq_true rfl) dX12_number_47 ⟨Nat.le_of_ble_eq_true rfl, Nat.le_of_ble_eq_true rfl⟩ (fun ad' H locs hp hw => ?_)
    subst hp
    refine W.widen (k := 0) (n := 0) (by decide) (by decide) ?_
    refine lv_if_ne (tgt := 57) hx hb dX12_number_50 (by decide) (fun c13 => ?_) (fun c13 => ?_)
    · replace h := ite_f h c13
      refine lv_iconst (v := (0 : Int32)) hx hb dX12_number_57 (by decide) ?_
      refine lv_istore (lv' := [(6, .int (0 : Int32)), (0, .ref (ad 0)), (1, .int v1), (2, .int v2), (3, .long v3), (5, .int v5)]) hx hb dX12_number_58 hl (by decide) rfl (fun ls hl => ?_)
      exact TX12_number_60 C hr28 v1 v2 v3 v5 (0 : Int32) sg10 lg11 h _ _ _ hw (lv_sub hl [1, 2, 3, 4, 5, 0] rfl)
    · replace h := ite_t h c13
      refine lv_ldc2 hx hb hown (hts _ kX12_number_c112) dX12_number_53 ?_
      cases h
      exact r_lret C hw rfl (by decide) (by decide) dX12_number_56
def LX12_number_28  : (Int32 × Int32 × Int64 × Int32 × Sg × Lg) → Option (Int64 × Sg × Lg) := loop (fun rec z => fX12_number_28 rec z.1 z.2.1 z.2.2.1 z.2.2.2.1 z.2.2.2.2.1 z.2.2.2.2.2)
theorem TX12_number_28 (C : Cx p s m args meth c cX12_number 7 RX12 wsX12_number (some .long) D vwCl (tysM T) A false []) {ro : Int64} {so : Sg} {lo : Lg}   : ∀ (v1 : Int32) (v2 : Int32) (v3 : Int64) (v5 : Int32) (sg : Sg) (lg : Lg), LX12_number_28 (v1, v2, v3, v5, sg, lg) = some (ro, so, lo) → ∀ (H : Heap) (locs : List Loc) (ls : Array Slot), WS ZM D vwCl T ad sg lg A s.heap H locs → lv_has ls 7 [(0, .ref (ad 0)), (1, .int v1), (2, .int v2), (3, .long v3), (5, .int v5)] → W p l e rmX12_number s m args below meth c H locs 0 0 (MQ below (QL ZM D vwCl T (tysM T) A (fun z => ad = z) ro so lo) args s 0 0 A) (F0 m 28 ls []) := by
  have key : ∀ z : (Int32 × Int32 × Int64 × Int32 × Sg × Lg), LX12_number_28  z = some (ro, so, lo) → ∀ (H : Heap) (locs : List Loc) (ls : Array Slot), WS ZM D vwCl T ad z.2.2.2.2.1 z.2.2.2.2.2 A s.heap H locs → lv_has ls 7 [(0, .ref (ad 0)), (1, .int z.1), (2, .int z.2.1), (3, .long z.2.2.1), (5, .int z.2.2.2.1)] → W p l e rmX12_number s m args below meth c H locs 0 0 (MQ below (QL ZM D vwCl T (tysM T) A (fun z => ad = z) ro so lo) args s 0 0 A) (F0 m 28 ls []) := by
    intro z h
    unfold LX12_number_28 at h
    exact loop_ind (fun rec z => fX12_number_28 rec z.1 z.2.1 z.2.2.1 z.2.2.2.1 z.2.2.2.2.1 z.2.2.2.2.2) (y := (ro, so, lo)) (P := fun z => ∀ (H : Heap) (locs : List Loc) (ls : Array Slot), WS ZM D vwCl T ad z.2.2.2.2.1 z.2.2.2.2.2 A s.heap H locs → lv_has ls 7 [(0, .ref (ad 0)), (1, .int z.1), (2, .int z.2.1), (3, .long z.2.2.1), (5, .int z.2.2.2.1)] → W p l e rmX12_number s m args below meth c H locs 0 0 (MQ below (QL ZM D vwCl T (tysM T) A (fun z => ad = z) ro so lo) args s 0 0 A) (F0 m 28 ls [])) (fun rec hrec z h H locs ls hw hl => tX12_number_28 C  (fun v1 v2 v3 v5 sg lg => hrec (v1, v2, v3, v5, sg, lg)) z.1 z.2.1 z.2.2.1 z.2.2.2.1 z.2.2.2.2.1 z.2.2.2.2.2 H locs ls hw hl h) z h
  exact fun v1 v2 v3 v5 sg lg => key (v1, v2, v3, v5, sg, lg)
def fX12_number  (sg : Sg) (lg : Lg) : Option (Int64 × Sg × Lg) :=
  bnd3 (fX12_isWhole sg lg) (fun y1 sg2 lg3 => (if y1 = 0 then some ((-2000000002 : Int64), sg2, lg3) else bnd2 (fX12_fill (1 : Int32) (-1 : Int32) (-1 : Int32) sg2 lg3) (fun sg6 lg7 => LX12_number_28 ((0 : Int32), (12 : Int32), (0 : Int64), (0 : Int32), sg6, lg7))))
set_option maxHeartbeats 4000000 in
set_option maxRecDepth 100000 in
theorem tX12_number_0 (C : Cx p s m args meth c cX12_number 7 RX12 wsX12_number (some .long) D vwCl (tysM T) A false []) {ro : Int64} {so : Sg} {lo : Lg}   : ∀ (sg : Sg) (lg : Lg), ∀ (H : Heap) (locs : List Loc) (ls : Array Slot), WS ZM D vwCl T ad sg lg A s.heap H locs → lv_has ls 7 [(0, .ref (ad 0))] → fX12_number sg lg = some (ro, so, lo) → W p l e rmX12_number s m args below meth c H locs 0 0 (MQ below (QL ZM D vwCl T (tysM T) A (fun z => ad = z) ro so lo) args s 0 0 A) (F0 m 0 ls []) := by
  obtain ⟨⟨hx, hb, hml, hown, hts⟩, hr, hlk, hK, hA, hsp⟩ := id C
  intro sg lg H locs ls hw hl h
  unfold fX12_number at h
  refine lv_aload_n hx hb dX12_number_0 rfl (lv_at hl 0 rfl) ?_
  obtain ⟨y1, sg2, lg3, hq4, h2⟩ := bnd3_some h
  replace h := h2
  clear h2
  refine r_cVi (As := []) (rest := []) C hw 0 (by decide) (ci := 12) rfl rfl (mX12_isWhole l D T ad  H.size sg lg hq4) (cwV 0 hts gX12_number_X12_isWhole rfl rfl rfl (by decide +kernel) ⟨Nat.le_of_ble_eq_true rfl, Nat.le_of_ble_eq_true rfl⟩) rfl hl.1 rfl (Nat.le_of_ble_eq_true rfl) dX12_number_1 ⟨Nat.le_of_ble_eq_true rfl, Nat.le_of_ble_eq_true rfl⟩ (fun ad' H locs hp hw => ?_)
  subst hp
  refine W.widen (k := 0) (n := 0) (by decide) (by decide) ?_
  refine lv_if_ne (tgt := 11) hx hb dX12_number_4 (by decide) (fun c5 => ?_) (fun c5 => ?_)
  · replace h := ite_f h c5
    refine lv_aload_n hx hb dX12_number_11 rfl (lv_at hl 0 rfl) ?_
    refine lv_iconst (v := (1 : Int32)) hx hb dX12_number_12 (by decide) ?_
    refine lv_iconst (v := (-1 : Int32)) hx hb dX12_number_13 (by decide) ?_
    refine lv_iconst (v := (-1 : Int32)) hx hb dX12_number_14 (by decide) ?_
    obtain ⟨sg6, lg7, hq8, h2⟩ := bnd2_some h
    replace h := h2
    clear h2
    refine r_cVv (As := [.int (1 : Int32), .int (-1 : Int32), .int (-1 : Int32)]) (rest := []) C hw 0 (by decide) (ci := 12) rfl rfl (mX12_fill l D T ad  H.size (1 : Int32) (-1 : Int32) (-1 : Int32) sg2 lg3 hq8) (cwV 3 hts gX12_number_X12_fill rfl rfl rfl (by decide +kernel) ⟨Nat.le_of_ble_eq_true rfl, Nat.le_of_ble_eq_true rfl⟩) rfl hl.1 rfl (Nat.le_of_ble_eq_true rfl) dX12_number_15 ⟨Nat.le_of_ble_eq_true rfl, Nat.le_of_ble_eq_true rfl⟩ (fun ad' H locs hp hw => ?_)
    subst hp
    refine W.widen (k := 0) (n := 0) (by decide) (by decide) ?_
    refine lv_iconst (v := (0 : Int32)) hx hb dX12_number_18 (by decide) ?_
    refine lv_istore_n (lv' := [(1, .int (0 : Int32)), (0, .ref (ad 0))]) hx hb dX12_number_19 rfl hl (by decide) rfl (fun ls hl => ?_)
    refine lv_bipush (v := (12 : Int32)) hx hb dX12_number_20 (by decide) ?_
    refine lv_istore_n (lv' := [(2, .int (12 : Int32)), (1, .int (0 : Int32)), (0, .ref (ad 0))]) hx hb dX12_number_22 rfl hl (by decide) rfl (fun ls hl => ?_)
    refine lv_lconst (v := (0 : Int64)) hx hb dX12_number_23 (by decide) ?_
    refine lv_lstore_n (lv' := [(3, .long (0 : Int64)), (2, .int (12 : Int32)), (1, .int (0 : Int32)), (0, .ref (ad 0))]) hx hb dX12_number_24 rfl hl (by decide) rfl (fun ls hl => ?_)
    refine lv_iconst (v := (0 : Int32)) hx hb dX12_number_25 (by decide) ?_
    refine lv_istore (lv' := [(5, .int (0 : Int32)), (3, .long (0 : Int64)), (2, .int (12 : Int32)), (1, .int (0 : Int32)), (0, .ref (ad 0))]) hx hb dX12_number_26 hl (by decide) rfl (fun ls hl => ?_)
    exact TX12_number_28 C (0 : Int32) (12 : Int32) (0 : Int64) (0 : Int32) sg6 lg7 h _ _ _ hw (lv_sub hl [4, 3, 2, 1, 0] rfl)
  · replace h := ite_t h c5
    refine lv_ldc2 hx hb hown (hts _ kX12_number_c61) dX12_number_7 ?_
    cases h
    exact r_lret C hw rfl (by decide) (by decide) dX12_number_10
theorem mX12_number (l : Launch) (D : va_G) (T : Nat → ClassId) (ad : Nat → Nat)  (sz : Nat)   (sg : Sg) (lg : Lg) {ro : Int64} {so : Sg} {lo : Lg} (h : fX12_number sg lg = some (ro, so, lo)) : Met l yX12_number wsX12_number rmX12_number (PreZ ZM D vwCl T (tysM T) ad sg lg false [] [.ref (ad 0)] sz) (QL ZM D vwCl T (tysM T) (va_A (zwd ZM T ad sg lg) sz) (fun z => ad = z) ro so lo) 0 0 (va_A (zwd ZM T ad sg lg) sz) :=
  metZ [.ref (ad 0)] sz (by decide) rfl (Nat.le_of_ble_eq_true rfl) (fun p e s m below meth c ls C hw hl => tX12_number_0 C sg lg _ _ _ hw hl h)
-- PeckYardModel.sure(II)J
def rmX12_sure : Room := { frames := 8, cells := 0, slots := 0, locals := 190 }
theorem kX12_sure_c72 : Cond.constantLong RX12 72 (-2000000001) ∈ wsX12_sure := by decide +kernel
theorem kX12_sure_f20 : Cond.fieldLink RX12 20 "PeckYardModel" "leastOf" "[J" ∈ wsX12_sure := by decide +kernel
theorem kX12_sure_iX12 : ∀ w ∈ u_ws RX12 TX12 18, w ∈ wsX12_sure := by decide +kernel
theorem kX12_sure_f24 : Cond.fieldLink RX12 24 "PeckYardModel" "waysOf" "[J" ∈ wsX12_sure := by decide +kernel
theorem kX12_sure_c131 : Cond.constantLong RX12 131 (1000000000000000) ∈ wsX12_sure := by decide +kernel
theorem kX12_sure_c163 : Cond.constantLong RX12 163 (2) ∈ wsX12_sure := by decide +kernel
theorem kX12_sure_c112 : Cond.constantLong RX12 112 (-2000000005) ∈ wsX12_sure := by decide +kernel
def fX12_sure_111  (v5 : Int64) (w0 : Int64) (sg : Sg) (lg : Lg) : Option (Int64 × Sg × Lg) :=
  (if w0 = v5 then some ((1 : Int64), sg, lg) else (if w0 = (0 : Int64) then some ((2 : Int64), sg, lg) else some ((0 : Int64), sg, lg)))
set_option maxHeartbeats 4000000 in
set_option maxRecDepth 100000 in
theorem tX12_sure_111 (C : Cx p s m args meth c cX12_sure 9 RX12 wsX12_sure (some .long) D vwCl (tysM T) A false []) {ro : Int64} {so : Sg} {lo : Lg}   : ∀ (v5 : Int64) (w0 : Int64) (sg : Sg) (lg : Lg), ∀ (H : Heap) (locs : List Loc) (ls : Array Slot), WS ZM D vwCl T ad sg lg A s.heap H locs → lv_has ls 9 [(5, .long v5)] → fX12_sure_111 v5 w0 sg lg = some (ro, so, lo) → W p l e rmX12_sure s m args below meth c H locs 0 0 (MQ below (QL ZM D vwCl T (tysM T) A (fun z => ad = z) ro so lo) args s 0 0 A) (F0 m 111 ls [.long w0]) := by
  obtain ⟨⟨hx, hb, hml, hown, hts⟩, hr, hlk, hK, hA, hsp⟩ := id C
  intro v5 w0 sg lg H locs ls hw hl h
  unfold fX12_sure_111 at h
  refine lv_lstore (lv' := [(7, .long w0), (5, .long v5)]) hx hb dX12_sure_111 hl (by decide) rfl (fun ls hl => ?_)
  refine lv_lload hx hb dX12_sure_113 (lv_at hl 0 rfl) ?_
  refine lv_lload hx hb dX12_sure_115 (lv_at hl 1 rfl) ?_
  refine W.lcmp hx hb dX12_sure_117 ?_
  refine lv_if_ne (tgt := 125) hx hb dX12_sure_118 (by decide) (fun c1 => ?_) (fun c1 => ?_)
  · replace h := ite_f h (fun z => c1 ((lg_cmp_eq _ _).mpr z))
    refine lv_lload hx hb dX12_sure_125 (lv_at hl 0 rfl) ?_
    refine lv_lconst (v := (0 : Int64)) hx hb dX12_sure_127 (by decide) ?_
    refine W.lcmp hx hb dX12_sure_128 ?_
    refine lv_if_ne (tgt := 138) hx hb dX12_sure_129 (by decide) (fun c2 => ?_) (fun c2 => ?_)
    · replace h := ite_f h (fun z => c2 ((lg_cmp_eq _ _).mpr z))
      refine lv_lconst (v := (0 : Int64)) hx hb dX12_sure_138 (by decide) ?_
      cases h
      exact r_lret C hw rfl (by decide) (by decide) dX12_sure_139
    · replace h := ite_t h ((lg_cmp_eq _ _).mp c2)
      refine lv_ldc2 hx hb hown (hts _ kX12_sure_c163) dX12_sure_132 ?_
      refine lv_goto (tgt := 139) hx hb dX12_sure_135 (by decide) ?_
      cases h
      exact r_lret C hw rfl (by decide) (by decide) dX12_sure_139
  · replace h := ite_t h ((lg_cmp_eq _ _).mp c1)
    refine lv_lconst (v := (1 : Int64)) hx hb dX12_sure_121 (by decide) ?_
    refine lv_goto (tgt := 139) hx hb dX12_sure_122 (by decide) ?_
    cases h
    exact r_lret C hw rfl (by decide) (by decide) dX12_sure_139
def fX12_sure  (v1 : Int32) (v2 : Int32) (sg : Sg) (lg : Lg) : Option (Int64 × Sg × Lg) :=
  bnd3 (fX12_isHen v1 sg lg) (fun y1 sg2 lg3 => (if y1 = 0 then some ((-2000000001 : Int64), sg2, lg3) else bnd3 (fX12_isHen v2 sg2 lg3) (fun y6 sg7 lg8 => (if y6 = 0 then some ((-2000000001 : Int64), sg7, lg8) else (if v1 = v2 then some ((-2000000001 : Int64), sg7, lg8) else bnd3 (fX12_counts v1 sg7 lg8) (fun y12 sg13 lg14 => (if y12 = 0 then some ((-2000000001 : Int64), sg13, lg14) else bnd3 (fX12_counts v2 sg13 lg14) (fun y17 sg18 lg19 => (if y17 = 0 then some ((-2000000001 : Int64), sg18, lg19) else bnd2 (fX12_fill (1 : Int32) (-1 : Int32) (-1 : Int32) sg18 lg19) (fun sg22 lg23 => bnd3 (fX12_begun sg22 lg23) (fun y25 sg26 lg27 => gin y25 53248 (lt (lg27 4 y25.toNatClampNeg) (fun x30 => bnd3 (fX12_begun sg26 lg27) (fun y31 sg32 lg33 => gin y31 53248 (lt (lg33 5 y31.toNatClampNeg) (fun x36 => (if x30 < (1000000000000000 : Int64) then bnd2 (fX12_fill (1 : Int32) v1 v2 sg32 lg33) (fun sg38 lg39 => bnd3 (fX12_begun sg38 lg39) (fun y41 sg42 lg43 => gin y41 53248 ((if (lg43 4 y41.toNatClampNeg) = x30 then bnd3 (fX12_begun sg42 lg43) (fun y47 sg48 lg49 => gin y47 53248 (fX12_sure_111 x36 (lg49 5 y47.toNatClampNeg) sg48 lg49)) else fX12_sure_111 x36 (0 : Int64) sg42 lg43)))) else some ((-2000000005 : Int64), sg32, lg33))))))))))))))))))
set_option maxHeartbeats 4000000 in
set_option maxRecDepth 100000 in
theorem tX12_sure_0 (C : Cx p s m args meth c cX12_sure 9 RX12 wsX12_sure (some .long) D vwCl (tysM T) A false []) {ro : Int64} {so : Sg} {lo : Lg}   : ∀ (v1 : Int32) (v2 : Int32) (sg : Sg) (lg : Lg), ∀ (H : Heap) (locs : List Loc) (ls : Array Slot), WS ZM D vwCl T ad sg lg A s.heap H locs → lv_has ls 9 [(0, .ref (ad 0)), (1, .int v1), (2, .int v2)] → fX12_sure v1 v2 sg lg = some (ro, so, lo) → W p l e rmX12_sure s m args below meth c H locs 0 0 (MQ below (QL ZM D vwCl T (tysM T) A (fun z => ad = z) ro so lo) args s 0 0 A) (F0 m 0 ls []) := by
  obtain ⟨⟨hx, hb, hml, hown, hts⟩, hr, hlk, hK, hA, hsp⟩ := id C
  intro v1 v2 sg lg H locs ls hw hl h
  unfold fX12_sure at h
  refine lv_aload_n hx hb dX12_sure_0 rfl (lv_at hl 0 rfl) ?_
  refine lv_iload_n hx hb dX12_sure_1 rfl (lv_at hl 1 rfl) ?_
  obtain ⟨y1, sg2, lg3, hq4, h2⟩ := bnd3_some h
  replace h := h2
  clear h2
  refine r_cVi (As := [.int v1]) (rest := []) C hw 0 (by decide) (ci := 12) rfl rfl (mX12_isHen l D T ad  H.size v1 sg lg hq4) (cwV 1 hts gX12_sure_X12_isHen rfl rfl rfl (by decide +kernel) ⟨Nat.le_of_ble_eq_true rfl, Nat.le_of_ble_eq_true rfl⟩) rfl hl.1 rfl (Nat.le_of_ble_eq_true rfl) dX12_sure_2 ⟨Nat.le_of_ble_eq_true rfl, Nat.le_of_ble_eq_true rfl⟩ (fun ad' H locs hp hw => ?_)
  subst hp
  refine W.widen (k := 0) (n := 0) (by decide) (by decide) ?_
  refine lv_if_eq (tgt := 37) hx hb dX12_sure_5 (by decide) (fun c5 => ?_) (fun c5 => ?_)
  · replace h := ite_t h c5
    refine lv_ldc2 hx hb hown (hts _ kX12_sure_c72) dX12_sure_37 ?_
    cases h
    exact r_lret C hw rfl (by decide) (by decide) dX12_sure_40
  · replace h := ite_f h c5
    refine lv_aload_n hx hb dX12_sure_8 rfl (lv_at hl 0 rfl) ?_
    refine lv_iload_n hx hb dX12_sure_9 rfl (lv_at hl 2 rfl) ?_
    obtain ⟨y6, sg7, lg8, hq9, h2⟩ := bnd3_some h
    replace h := h2
    clear h2
    refine r_cVi (As := [.int v2]) (rest := []) C hw 0 (by decide) (ci := 12) rfl rfl (mX12_isHen l D T ad  H.size v2 sg2 lg3 hq9) (cwV 1 hts gX12_sure_X12_isHen rfl rfl rfl (by decide +kernel) ⟨Nat.le_of_ble_eq_true rfl, Nat.le_of_ble_eq_true rfl⟩) rfl hl.1 rfl (Nat.le_of_ble_eq_true rfl) dX12_sure_10 ⟨Nat.le_of_ble_eq_true rfl, Nat.le_of_ble_eq_true rfl⟩ (fun ad' H locs hp hw => ?_)
    subst hp
    refine W.widen (k := 0) (n := 0) (by decide) (by decide) ?_
    refine lv_if_eq (tgt := 37) hx hb dX12_sure_13 (by decide) (fun c10 => ?_) (fun c10 => ?_)
    · replace h := ite_t h c10
      refine lv_ldc2 hx hb hown (hts _ kX12_sure_c72) dX12_sure_37 ?_
      cases h
      exact r_lret C hw rfl (by decide) (by decide) dX12_sure_40
    · replace h := ite_f h c10
      refine lv_iload_n hx hb dX12_sure_16 rfl (lv_at hl 1 rfl) ?_
      refine lv_iload_n hx hb dX12_sure_17 rfl (lv_at hl 2 rfl) ?_
      refine lv_icmp_eq (tgt := 37) hx hb dX12_sure_18 (by decide) (fun c11 => ?_) (fun c11 => ?_)
      · replace h := ite_t h c11
        refine lv_ldc2 hx hb hown (hts _ kX12_sure_c72) dX12_sure_37 ?_
        cases h
        exact r_lret C hw rfl (by decide) (by decide) dX12_sure_40
      · replace h := ite_f h c11
        refine lv_aload_n hx hb dX12_sure_21 rfl (lv_at hl 0 rfl) ?_
        refine lv_iload_n hx hb dX12_sure_22 rfl (lv_at hl 1 rfl) ?_
        obtain ⟨y12, sg13, lg14, hq15, h2⟩ := bnd3_some h
        replace h := h2
        clear h2
        refine r_cVi (As := [.int v1]) (rest := []) C hw 0 (by decide) (ci := 12) rfl rfl (mX12_counts l D T ad  H.size v1 sg7 lg8 hq15) (cwV 1 hts gX12_sure_X12_counts rfl rfl rfl (by decide +kernel) ⟨Nat.le_of_ble_eq_true rfl, Nat.le_of_ble_eq_true rfl⟩) rfl hl.1 rfl (Nat.le_of_ble_eq_true rfl) dX12_sure_23 ⟨Nat.le_of_ble_eq_true rfl, Nat.le_of_ble_eq_true rfl⟩ (fun ad' H locs hp hw => ?_)
        subst hp
        refine W.widen (k := 0) (n := 0) (by decide) (by decide) ?_
        refine lv_if_eq (tgt := 37) hx hb dX12_sure_26 (by decide) (fun c16 => ?_) (fun c16 => ?_)
        · replace h := ite_t h c16
          refine lv_ldc2 hx hb hown (hts _ kX12_sure_c72) dX12_sure_37 ?_
          cases h
          exact r_lret C hw rfl (by decide) (by decide) dX12_sure_40
        · replace h := ite_f h c16
          refine lv_aload_n hx hb dX12_sure_29 rfl (lv_at hl 0 rfl) ?_
          refine lv_iload_n hx hb dX12_sure_30 rfl (lv_at hl 2 rfl) ?_
          obtain ⟨y17, sg18, lg19, hq20, h2⟩ := bnd3_some h
          replace h := h2
          clear h2
          refine r_cVi (As := [.int v2]) (rest := []) C hw 0 (by decide) (ci := 12) rfl rfl (mX12_counts l D T ad  H.size v2 sg13 lg14 hq20) (cwV 1 hts gX12_sure_X12_counts rfl rfl rfl (by decide +kernel) ⟨Nat.le_of_ble_eq_true rfl, Nat.le_of_ble_eq_true rfl⟩) rfl hl.1 rfl (Nat.le_of_ble_eq_true rfl) dX12_sure_31 ⟨Nat.le_of_ble_eq_true rfl, Nat.le_of_ble_eq_true rfl⟩ (fun ad' H locs hp hw => ?_)
          subst hp
          refine W.widen (k := 0) (n := 0) (by decide) (by decide) ?_
          refine lv_if_ne (tgt := 41) hx hb dX12_sure_34 (by decide) (fun c21 => ?_) (fun c21 => ?_)
          · replace h := ite_f h c21
            refine lv_aload_n hx hb dX12_sure_41 rfl (lv_at hl 0 rfl) ?_
            refine lv_iconst (v := (1 : Int32)) hx hb dX12_sure_42 (by decide) ?_
            refine lv_iconst (v := (-1 : Int32)) hx hb dX12_sure_43 (by decide) ?_
            refine lv_iconst (v := (-1 : Int32)) hx hb dX12_sure_44 (by decide) ?_
            obtain ⟨sg22, lg23, hq24, h2⟩ := bnd2_some h
            replace h := h2
            clear h2
            refine r_cVv (As := [.int (1 : Int32), .int (-1 : Int32), .int (-1 : Int32)]) (rest := []) C hw 0 (by decide) (ci := 12) rfl rfl (mX12_fill l D T ad  H.size (1 : Int32) (-1 : Int32) (-1 : Int32) sg18 lg19 hq24) (cwV 3 hts gX12_sure_X12_fill rfl rfl rfl (by decide +kernel) ⟨Nat.le_of_ble_eq_true rfl, Nat.le_of_ble_eq_true rfl⟩) rfl hl.1 rfl (Nat.le_of_ble_eq_true rfl) dX12_sure_45 ⟨Nat.le_of_ble_eq_true rfl, Nat.le_of_ble_eq_true rfl⟩ (fun ad' H locs hp hw => ?_)
            subst hp
            refine W.widen (k := 0) (n := 0) (by decide) (by decide) ?_
            refine lv_aload_n hx hb dX12_sure_48 rfl (lv_at hl 0 rfl) ?_
            refine r_getR (ci := 12) (C := RX12) (U := TX12) (N := 18) hx hb hts kX12_sure_iX12 hown hK hw 0 (by decide) rfl rfl 5 (by decide) 4 rfl (hts _ kX12_sure_f20) (fun _ h9 => h9) dX12_sure_49 ?_
            obtain ⟨y25, sg26, lg27, hq28, h2⟩ := bnd3_some h
            replace h := h2
            clear h2
            refine r_cSi (As := []) (rest := [.ref (ad 4)]) C hw (mX12_begun l D T ad  H.size sg22 lg23 hq28) (va_cwS 0 hts gX12_sure_X12_begun rfl rfl rfl (by decide +kernel) ⟨Nat.le_of_ble_eq_true rfl, Nat.le_of_ble_eq_true rfl⟩) rfl hl.1 rfl (Nat.le_of_ble_eq_true rfl) dX12_sure_52 ⟨Nat.le_of_ble_eq_true rfl, Nat.le_of_ble_eq_true rfl⟩ (fun ad' H locs hp hw => ?_)
            subst hp
            refine W.widen (k := 0) (n := 0) (by decide) (by decide) ?_
            have hi29 := (gin_some h).1
            replace h := (gin_some h).2
            refine r_lald hx hb hK hw 4 2 53248 (by decide) rfl rfl rfl hi29 dX12_sure_55 ?_
            refine lv_topl (fun x30 ex30 => ?_)
            replace h := lt_get h x30 ex30
            refine lv_lstore_n (lv' := [(3, .long x30), (0, .ref (ad 0)), (1, .int v1), (2, .int v2)]) hx hb dX12_sure_56 rfl hl (by decide) rfl (fun ls hl => ?_)
            refine lv_aload_n hx hb dX12_sure_57 rfl (lv_at hl 1 rfl) ?_
            refine r_getR (ci := 12) (C := RX12) (U := TX12) (N := 18) hx hb hts kX12_sure_iX12 hown hK hw 0 (by decide) rfl rfl 6 (by decide) 5 rfl (hts _ kX12_sure_f24) (fun _ h9 => h9) dX12_sure_58 ?_
            obtain ⟨y31, sg32, lg33, hq34, h2⟩ := bnd3_some h
            replace h := h2
            clear h2
            refine r_cSi (As := []) (rest := [.ref (ad 5)]) C hw (mX12_begun l D T ad  H.size sg26 lg27 hq34) (va_cwS 0 hts gX12_sure_X12_begun rfl rfl rfl (by decide +kernel) ⟨Nat.le_of_ble_eq_true rfl, Nat.le_of_ble_eq_true rfl⟩) rfl hl.1 rfl (Nat.le_of_ble_eq_true rfl) dX12_sure_61 ⟨Nat.le_of_ble_eq_true rfl, Nat.le_of_ble_eq_true rfl⟩ (fun ad' H locs hp hw => ?_)
            subst hp
            refine W.widen (k := 0) (n := 0) (by decide) (by decide) ?_
            have hi35 := (gin_some h).1
            replace h := (gin_some h).2
            refine r_lald hx hb hK hw 5 2 53248 (by decide) rfl rfl rfl hi35 dX12_sure_64 ?_
            refine lv_topl (fun x36 ex36 => ?_)
            replace h := lt_get h x36 ex36
            refine lv_lstore (lv' := [(5, .long x36), (3, .long x30), (0, .ref (ad 0)), (1, .int v1), (2, .int v2)]) hx hb dX12_sure_65 hl (by decide) rfl (fun ls hl => ?_)
            refine lv_lload_n hx hb dX12_sure_67 rfl (lv_at hl 1 rfl) ?_
            refine lv_ldc2 hx hb hown (hts _ kX12_sure_c131) dX12_sure_68 ?_
            refine W.lcmp hx hb dX12_sure_71 ?_
            refine lv_if_lt (tgt := 79) hx hb dX12_sure_72 (by decide) (fun c37 => ?_) (fun c37 => ?_)
            · replace h := ite_t h ((lg_cmp_lt _ _).mp c37)
              refine lv_aload_n hx hb dX12_sure_79 rfl (lv_at hl 2 rfl) ?_
              refine lv_iconst (v := (1 : Int32)) hx hb dX12_sure_80 (by decide) ?_
              refine lv_iload_n hx hb dX12_sure_81 rfl (lv_at hl 3 rfl) ?_
              refine lv_iload_n hx hb dX12_sure_82 rfl (lv_at hl 4 rfl) ?_
              obtain ⟨sg38, lg39, hq40, h2⟩ := bnd2_some h
              replace h := h2
              clear h2
              refine r_cVv (As := [.int (1 : Int32), .int v1, .int v2]) (rest := []) C hw 0 (by decide) (ci := 12) rfl rfl (mX12_fill l D T ad  H.size (1 : Int32) v1 v2 sg32 lg33 hq40) (cwV 3 hts gX12_sure_X12_fill rfl rfl rfl (by decide +kernel) ⟨Nat.le_of_ble_eq_true rfl, Nat.le_of_ble_eq_true rfl⟩) rfl hl.1 rfl (Nat.le_of_ble_eq_true rfl) dX12_sure_83 ⟨Nat.le_of_ble_eq_true rfl, Nat.le_of_ble_eq_true rfl⟩ (fun ad' H locs hp hw => ?_)
              subst hp
              refine W.widen (k := 0) (n := 0) (by decide) (by decide) ?_
              refine lv_aload_n hx hb dX12_sure_86 rfl (lv_at hl 2 rfl) ?_
              refine r_getR (ci := 12) (C := RX12) (U := TX12) (N := 18) hx hb hts kX12_sure_iX12 hown hK hw 0 (by decide) rfl rfl 5 (by decide) 4 rfl (hts _ kX12_sure_f20) (fun _ h9 => h9) dX12_sure_87 ?_
              obtain ⟨y41, sg42, lg43, hq44, h2⟩ := bnd3_some h
              replace h := h2
              clear h2
              refine r_cSi (As := []) (rest := [.ref (ad 4)]) C hw (mX12_begun l D T ad  H.size sg38 lg39 hq44) (va_cwS 0 hts gX12_sure_X12_begun rfl rfl rfl (by decide +kernel) ⟨Nat.le_of_ble_eq_true rfl, Nat.le_of_ble_eq_true rfl⟩) rfl hl.1 rfl (Nat.le_of_ble_eq_true rfl) dX12_sure_90 ⟨Nat.le_of_ble_eq_true rfl, Nat.le_of_ble_eq_true rfl⟩ (fun ad' H locs hp hw => ?_)
              subst hp
              refine W.widen (k := 0) (n := 0) (by decide) (by decide) ?_
              have hi45 := (gin_some h).1
              replace h := (gin_some h).2
              refine r_lald hx hb hK hw 4 2 53248 (by decide) rfl rfl rfl hi45 dX12_sure_93 ?_
              refine lv_lload_n hx hb dX12_sure_94 rfl (lv_at hl 1 rfl) ?_
              refine W.lcmp hx hb dX12_sure_95 ?_
              refine lv_if_ne (tgt := 110) hx hb dX12_sure_96 (by decide) (fun c46 => ?_) (fun c46 => ?_)
              · replace h := ite_f h (fun z => c46 ((lg_cmp_eq _ _).mpr z))
                refine lv_lconst (v := (0 : Int64)) hx hb dX12_sure_110 (by decide) ?_
                exact tX12_sure_111 C x36 (0 : Int64) sg42 lg43 _ _ _ hw (lv_sub hl [0] rfl) h
              · replace h := ite_t h ((lg_cmp_eq _ _).mp c46)
                refine lv_aload_n hx hb dX12_sure_99 rfl (lv_at hl 2 rfl) ?_
                refine r_getR (ci := 12) (C := RX12) (U := TX12) (N := 18) hx hb hts kX12_sure_iX12 hown hK hw 0 (by decide) rfl rfl 6 (by decide) 5 rfl (hts _ kX12_sure_f24) (fun _ h9 => h9) dX12_sure_100 ?_
                obtain ⟨y47, sg48, lg49, hq50, h2⟩ := bnd3_some h
                replace h := h2
                clear h2
                refine r_cSi (As := []) (rest := [.ref (ad 5)]) C hw (mX12_begun l D T ad  H.size sg42 lg43 hq50) (va_cwS 0 hts gX12_sure_X12_begun rfl rfl rfl (by decide +kernel) ⟨Nat.le_of_ble_eq_true rfl, Nat.le_of_ble_eq_true rfl⟩) rfl hl.1 rfl (Nat.le_of_ble_eq_true rfl) dX12_sure_103 ⟨Nat.le_of_ble_eq_true rfl, Nat.le_of_ble_eq_true rfl⟩ (fun ad' H locs hp hw => ?_)
                subst hp
                refine W.widen (k := 0) (n := 0) (by decide) (by decide) ?_
                have hi51 := (gin_some h).1
                replace h := (gin_some h).2
                refine r_lald hx hb hK hw 5 2 53248 (by decide) rfl rfl rfl hi51 dX12_sure_106 ?_
                refine lv_goto (tgt := 111) hx hb dX12_sure_107 (by decide) ?_
                exact tX12_sure_111 C x36 (lg49 5 y47.toNatClampNeg) sg48 lg49 _ _ _ hw (lv_sub hl [0] rfl) h
            · replace h := ite_f h (fun z => c37 ((lg_cmp_lt _ _).mpr z))
              refine lv_ldc2 hx hb hown (hts _ kX12_sure_c112) dX12_sure_75 ?_
              cases h
              exact r_lret C hw rfl (by decide) (by decide) dX12_sure_78
          · replace h := ite_t h c21
            refine lv_ldc2 hx hb hown (hts _ kX12_sure_c72) dX12_sure_37 ?_
            cases h
            exact r_lret C hw rfl (by decide) (by decide) dX12_sure_40
theorem mX12_sure (l : Launch) (D : va_G) (T : Nat → ClassId) (ad : Nat → Nat)  (sz : Nat)   (v1 : Int32) (v2 : Int32) (sg : Sg) (lg : Lg) {ro : Int64} {so : Sg} {lo : Lg} (h : fX12_sure v1 v2 sg lg = some (ro, so, lo)) : Met l yX12_sure wsX12_sure rmX12_sure (PreZ ZM D vwCl T (tysM T) ad sg lg false [] [.ref (ad 0), .int v1, .int v2] sz) (QL ZM D vwCl T (tysM T) (va_A (zwd ZM T ad sg lg) sz) (fun z => ad = z) ro so lo) 0 0 (va_A (zwd ZM T ad sg lg) sz) :=
  metZ [.ref (ad 0), .int v1, .int v2] sz (by decide) rfl (Nat.le_of_ble_eq_true rfl) (fun p e s m below meth c ls C hw hl => tX12_sure_0 C v1 v2 sg lg _ _ _ hw hl h)
end ZM
