section ZM
variable {p : Program} {l : Launch} {e : Env} {s : State} {m : MethodId} {args : Array Value} {below : List Frame} {meth : Method} {c : Code} {D : va_G} {T : Nat → ClassId} {A : Nat → Prop} {ad a : Nat → Nat}
-- PeckYardModel.ringNext()I
def rmX12_ringNext : Room := { frames := 22, cells := 0, slots := 0, locals := 566 }
theorem kX12_ringNext_f43 : Cond.fieldLink RX12 43 "PeckYardModel" "row" "[I" ∈ wsX12_ringNext := by decide +kernel
theorem kX12_ringNext_iX12 : ∀ w ∈ u_ws RX12 TX12 18, w ∈ wsX12_ringNext := by decide +kernel
def fX12_ringNext_12 (r2 : (Int32 × Sg × Lg) → Option (Int32 × Sg × Lg)) (r12 : (Int32 × Int32 × Sg × Lg) → Option (Int32 × Sg × Lg)) (v1 : Int32) (v2 : Int32) (sg : Sg) (lg : Lg) : Option (Int32 × Sg × Lg) :=
  bnd3 (fX12_hens sg lg) (fun y1 sg2 lg3 => (if y1 ≤ v2 then lt (v1 + (1 : Int32)) (fun x6 => r2 (x6, sg2, lg3)) else gin (0 : Int32) 12 (lt (up2 sg2 11 (0 : Int32).toNatClampNeg v2) (fun sg8 => bnd3 (fX12_closes (1 : Int32) v1 sg8 lg3) (fun y9 sg10 lg11 => (if y9 = 0 then lt (v2 + (1 : Int32)) (fun x14 => r12 (v1, x14, sg10, lg11)) else some (v1, sg10, lg11)))))))
set_option maxHeartbeats 4000000 in
set_option maxRecDepth 100000 in
theorem tX12_ringNext_12 (C : Cx p s m args meth c cX12_ringNext 3 RX12 wsX12_ringNext (some .int) D vwCl (tysM T) A false []) {ro : Int32} {so : Sg} {lo : Lg} {r2 : (Int32 × Sg × Lg) → Option (Int32 × Sg × Lg)} {r12 : (Int32 × Int32 × Sg × Lg) → Option (Int32 × Sg × Lg)} (hr2 : ∀ (v1 : Int32) (sg : Sg) (lg : Lg), r2 (v1, sg, lg) = some (ro, so, lo) → ∀ (H : Heap) (locs : List Loc) (ls : Array Slot), WS ZM D vwCl T ad sg lg A s.heap H locs → lv_has ls 3 [(0, .ref (ad 0)), (1, .int v1)] → W p l e rmX12_ringNext s m args below meth c H locs 0 0 (MQ below (QI ZM D vwCl T (tysM T) A (fun z => ad = z) ro so lo) args s 0 0 A) (F0 m 2 ls [])) (hr12 : ∀ (v1 : Int32) (v2 : Int32) (sg : Sg) (lg : Lg), r12 (v1, v2, sg, lg) = some (ro, so, lo) → ∀ (H : Heap) (locs : List Loc) (ls : Array Slot), WS ZM D vwCl T ad sg lg A s.heap H locs → lv_has ls 3 [(0, .ref (ad 0)), (1, .int v1), (2, .int v2)] → W p l e rmX12_ringNext s m args below meth c H locs 0 0 (MQ below (QI ZM D vwCl T (tysM T) A (fun z => ad = z) ro so lo) args s 0 0 A) (F0 m 12 ls [])) : ∀ (v1 : Int32) (v2 : Int32) (sg : Sg) (lg : Lg), ∀ (H : Heap) (locs : List Loc) (ls : Array Slot), WS ZM D vwCl T ad sg lg A s.heap H locs → lv_has ls 3 [(0, .ref (ad 0)), (1, .int v1), (2, .int v2)] → fX12_ringNext_12 r2 r12 v1 v2 sg lg = some (ro, so, lo) → W p l e rmX12_ringNext s m args below meth c H locs 0 0 (MQ below (QI ZM D vwCl T (tysM T) A (fun z => ad = z) ro so lo) args s 0 0 A) (F0 m 12 ls []) := by
  obtain ⟨⟨hx, hb, hml, hown, hts⟩, hr, hlk, hK, hA, hsp⟩ := id C
  intro v1 v2 sg lg H locs ls hw hl h
  unfold fX12_ringNext_12 at h
  refine lv_iload_n hx hb dX12_ringNext_12 rfl (lv_at hl 2 rfl) ?_
  refine lv_aload_n hx hb dX12_ringNext_13 rfl (lv_at hl 0 rfl) ?_
  obtain ⟨y1, sg2, lg3, hq4, h2⟩ := bnd3_some h
  replace h := h2
  clear h2
  refine r_cVi (As := []) (rest := [.int v2]) C hw 0 (by decide) (ci := 12) rfl rfl (mX12_hens l D T ad  H.size sg lg hq4) (cwV 0 hts gX12_ringNext_X12_hens rfl rfl rfl (by decide +kernel) ⟨Nat.le_of_ble_eq_true rfl, Nat.le_of_ble_eq_true rfl⟩) rfl hl.1 rfl (Nat.le_of_ble_eq_true rfl) dX12_ringNext_14 ⟨Nat.le_of_ble_eq_true rfl, Nat.le_of_ble_eq_true rfl⟩ (fun ad' H locs hp hw => ?_)
  subst hp
  refine W.widen (k := 0) (n := 0) (by decide) (by decide) ?_
  refine lv_icmp_ge (tgt := 44) hx hb dX12_ringNext_17 (by decide) (fun c5 => ?_) (fun c5 => ?_)
  · replace h := ite_t h c5
    obtain ⟨x6, ex6⟩ : ∃ z : Int32, z = (v1 + (1 : Int32)) := ⟨_, rfl⟩
    replace h := lt_get h x6 ex6
    refine lv_iinc (v := x6) (lv' := [(1, .int x6), (0, .ref (ad 0)), (2, .int v2)]) hx hb dX12_ringNext_44 hl (k := 1) rfl (by rw [ex6]; rfl) (by decide) rfl (fun ls hl => ?_)
    refine lv_goto (tgt := 2) hx hb dX12_ringNext_47 (by decide) ?_
    exact hr2 x6 sg2 lg3 h _ _ _ hw (lv_sub hl [1, 0] rfl)
  · replace h := ite_f h c5
    refine lv_aload_n hx hb dX12_ringNext_20 rfl (lv_at hl 0 rfl) ?_
    refine r_getR (ci := 12) (C := RX12) (U := TX12) (N := 18) hx hb hts kX12_ringNext_iX12 hown hK hw 0 (by decide) rfl rfl 15 (by decide) 11 rfl (hts _ kX12_ringNext_f43) (fun _ h9 => h9) dX12_ringNext_21 ?_
    refine lv_iconst (v := (0 : Int32)) hx hb dX12_ringNext_24 (by decide) ?_
    refine lv_iload_n hx hb dX12_ringNext_25 rfl (lv_at hl 2 rfl) ?_
    have hi7 := (gin_some h).1
    replace h := (gin_some h).2
    refine r_iast ZM_ok hx hb hK hw 11 0 12 (by decide) rfl rfl rfl hi7 dX12_ringNext_26 (fun H locs sg8 esg8 hw => ?_)
    replace h := lt_get h sg8 esg8
    refine lv_aload_n hx hb dX12_ringNext_27 rfl (lv_at hl 0 rfl) ?_
    refine lv_iconst (v := (1 : Int32)) hx hb dX12_ringNext_28 (by decide) ?_
    refine lv_iload_n hx hb dX12_ringNext_29 rfl (lv_at hl 1 rfl) ?_
    obtain ⟨y9, sg10, lg11, hq12, h2⟩ := bnd3_some h
    replace h := h2
    clear h2
    refine r_cVi (As := [.int (1 : Int32), .int v1]) (rest := []) C hw 0 (by decide) (ci := 12) rfl rfl (mX12_closes l D T ad  H.size (1 : Int32) v1 sg8 lg3 hq12) (cwV 2 hts gX12_ringNext_X12_closes rfl rfl rfl (by decide +kernel) ⟨Nat.le_of_ble_eq_true rfl, Nat.le_of_ble_eq_true rfl⟩) rfl hl.1 rfl (Nat.le_of_ble_eq_true rfl) dX12_ringNext_30 ⟨Nat.le_of_ble_eq_true rfl, Nat.le_of_ble_eq_true rfl⟩ (fun ad' H locs hp hw => ?_)
    subst hp
    refine W.widen (k := 0) (n := 0) (by decide) (by decide) ?_
    refine lv_if_eq (tgt := 38) hx hb dX12_ringNext_33 (by decide) (fun c13 => ?_) (fun c13 => ?_)
    · replace h := ite_t h c13
      obtain ⟨x14, ex14⟩ : ∃ z : Int32, z = (v2 + (1 : Int32)) := ⟨_, rfl⟩
      replace h := lt_get h x14 ex14
      refine lv_iinc (v := x14) (lv' := [(2, .int x14), (0, .ref (ad 0)), (1, .int v1)]) hx hb dX12_ringNext_38 hl (k := 2) rfl (by rw [ex14]; rfl) (by decide) rfl (fun ls hl => ?_)
      refine lv_goto (tgt := 12) hx hb dX12_ringNext_41 (by decide) ?_
      exact hr12 v1 x14 sg10 lg11 h _ _ _ hw (lv_sub hl [1, 2, 0] rfl)
    · replace h := ite_f h c13
      refine lv_iload_n hx hb dX12_ringNext_36 rfl (lv_at hl 1 rfl) ?_
      cases h
      exact r_iret C hw rfl (by decide) (by decide) dX12_ringNext_37
def LX12_ringNext_12 (r2 : (Int32 × Sg × Lg) → Option (Int32 × Sg × Lg)) : (Int32 × Int32 × Sg × Lg) → Option (Int32 × Sg × Lg) := loop (fun rec z => fX12_ringNext_12 r2 rec z.1 z.2.1 z.2.2.1 z.2.2.2)
theorem TX12_ringNext_12 (C : Cx p s m args meth c cX12_ringNext 3 RX12 wsX12_ringNext (some .int) D vwCl (tysM T) A false []) {ro : Int32} {so : Sg} {lo : Lg} {r2 : (Int32 × Sg × Lg) → Option (Int32 × Sg × Lg)} (hr2 : ∀ (v1 : Int32) (sg : Sg) (lg : Lg), r2 (v1, sg, lg) = some (ro, so, lo) → ∀ (H : Heap) (locs : List Loc) (ls : Array Slot), WS ZM D vwCl T ad sg lg A s.heap H locs → lv_has ls 3 [(0, .ref (ad 0)), (1, .int v1)] → W p l e rmX12_ringNext s m args below meth c H locs 0 0 (MQ below (QI ZM D vwCl T (tysM T) A (fun z => ad = z) ro so lo) args s 0 0 A) (F0 m 2 ls [])) : ∀ (v1 : Int32) (v2 : Int32) (sg : Sg) (lg : Lg), LX12_ringNext_12 r2 (v1, v2, sg, lg) = some (ro, so, lo) → ∀ (H : Heap) (locs : List Loc) (ls : Array Slot), WS ZM D vwCl T ad sg lg A s.heap H locs → lv_has ls 3 [(0, .ref (ad 0)), (1, .int v1), (2, .int v2)] → W p l e rmX12_ringNext s m args below meth c H locs 0 0 (MQ below (QI ZM D vwCl T (tysM T) A (fun z => ad = z) ro so lo) args s 0 0 A) (F0 m 12 ls []) := by
  have key : ∀ z : (Int32 × Int32 × Sg × Lg), LX12_ringNext_12 r2 z = some (ro, so, lo) → ∀ (H : Heap) (locs : List Loc) (ls : Array Slot), WS ZM D vwCl T ad z.2.2.1 z.2.2.2 A s.heap H locs → lv_has ls 3 [(0, .ref (ad 0)), (1, .int z.1), (2, .int z.2.1)] → W p l e rmX12_ringNext s m args below meth c H locs 0 0 (MQ below (QI ZM D vwCl T (tysM T) A (fun z => ad = z) ro so lo) args s 0 0 A) (F0 m 12 ls []) := by
    intro z h
    unfold LX12_ringNext_12 at h
    exact loop_ind (fun rec z => fX12_ringNext_12 r2 rec z.1 z.2.1 z.2.2.1 z.2.2.2) (y := (ro, so, lo)) (P := fun z => ∀ (H : Heap) (locs : List Loc) (ls : Array Slot), WS ZM D vwCl T ad z.2.2.1 z.2.2.2 A s.heap H locs → lv_has ls 3 [(0, .ref (ad 0)), (1, .int z.1), (2, .int z.2.1)] → W p l e rmX12_ringNext s m args below meth c H locs 0 0 (MQ below (QI ZM D vwCl T (tysM T) A (fun z => ad = z) ro so lo) args s 0 0 A) (F0 m 12 ls [])) (fun rec hrec z h H locs ls hw hl => tX12_ringNext_12 C hr2 (fun v1 v2 sg lg => hrec (v1, v2, sg, lg)) z.1 z.2.1 z.2.2.1 z.2.2.2 H locs ls hw hl h) z h
  exact fun v1 v2 sg lg => key (v1, v2, sg, lg)
def fX12_ringNext_2 (r2 : (Int32 × Sg × Lg) → Option (Int32 × Sg × Lg)) (v1 : Int32) (sg : Sg) (lg : Lg) : Option (Int32 × Sg × Lg) :=
  bnd3 (fX12_hens sg lg) (fun y1 sg2 lg3 => (if y1 < v1 then some ((0 : Int32), sg2, lg3) else LX12_ringNext_12 r2 (v1, (0 : Int32), sg2, lg3)))
set_option maxHeartbeats 4000000 in
set_option maxRecDepth 100000 in
theorem tX12_ringNext_2 (C : Cx p s m args meth c cX12_ringNext 3 RX12 wsX12_ringNext (some .int) D vwCl (tysM T) A false []) {ro : Int32} {so : Sg} {lo : Lg} {r2 : (Int32 × Sg × Lg) → Option (Int32 × Sg × Lg)} (hr2 : ∀ (v1 : Int32) (sg : Sg) (lg : Lg), r2 (v1, sg, lg) = some (ro, so, lo) → ∀ (H : Heap) (locs : List Loc) (ls : Array Slot), WS ZM D vwCl T ad sg lg A s.heap H locs → lv_has ls 3 [(0, .ref (ad 0)), (1, .int v1)] → W p l e rmX12_ringNext s m args below meth c H locs 0 0 (MQ below (QI ZM D vwCl T (tysM T) A (fun z => ad = z) ro so lo) args s 0 0 A) (F0 m 2 ls [])) : ∀ (v1 : Int32) (sg : Sg) (lg : Lg), ∀ (H : Heap) (locs : List Loc) (ls : Array Slot), WS ZM D vwCl T ad sg lg A s.heap H locs → lv_has ls 3 [(0, .ref (ad 0)), (1, .int v1)] → fX12_ringNext_2 r2 v1 sg lg = some (ro, so, lo) → W p l e rmX12_ringNext s m args below meth c H locs 0 0 (MQ below (QI ZM D vwCl T (tysM T) A (fun z => ad = z) ro so lo) args s 0 0 A) (F0 m 2 ls []) := by
  obtain ⟨⟨hx, hb, hml, hown, hts⟩, hr, hlk, hK, hA, hsp⟩ := id C
  intro v1 sg lg H locs ls hw hl h
  unfold fX12_ringNext_2 at h
  refine lv_iload_n hx hb dX12_ringNext_2 rfl (lv_at hl 1 rfl) ?_
  refine lv_aload_n hx hb dX12_ringNext_3 rfl (lv_at hl 0 rfl) ?_
  obtain ⟨y1, sg2, lg3, hq4, h2⟩ := bnd3_some h
  replace h := h2
  clear h2
  refine r_cVi (As := []) (rest := [.int v1]) C hw 0 (by decide) (ci := 12) rfl rfl (mX12_hens l D T ad  H.size sg lg hq4) (cwV 0 hts gX12_ringNext_X12_hens rfl rfl rfl (by decide +kernel) ⟨Nat.le_of_ble_eq_true rfl, Nat.le_of_ble_eq_true rfl⟩) rfl hl.1 rfl (Nat.le_of_ble_eq_true rfl) dX12_ringNext_4 ⟨Nat.le_of_ble_eq_true rfl, Nat.le_of_ble_eq_true rfl⟩ (fun ad' H locs hp hw => ?_)
  subst hp
  refine W.widen (k := 0) (n := 0) (by decide) (by decide) ?_
  refine lv_icmp_gt (tgt := 50) hx hb dX12_ringNext_7 (by decide) (fun c5 => ?_) (fun c5 => ?_)
  · replace h := ite_t h c5
    refine lv_iconst (v := (0 : Int32)) hx hb dX12_ringNext_50 (by decide) ?_
    cases h
    exact r_iret C hw rfl (by decide) (by decide) dX12_ringNext_51
  · replace h := ite_f h c5
    refine lv_iconst (v := (0 : Int32)) hx hb dX12_ringNext_10 (by decide) ?_
    refine lv_istore_n (lv' := [(2, .int (0 : Int32)), (0, .ref (ad 0)), (1, .int v1)]) hx hb dX12_ringNext_11 rfl hl (by decide) rfl (fun ls hl => ?_)
    exact TX12_ringNext_12 C hr2 v1 (0 : Int32) sg2 lg3 h _ _ _ hw (lv_sub hl [1, 2, 0] rfl)
def LX12_ringNext_2  : (Int32 × Sg × Lg) → Option (Int32 × Sg × Lg) := loop (fun rec z => fX12_ringNext_2 rec z.1 z.2.1 z.2.2)
theorem TX12_ringNext_2 (C : Cx p s m args meth c cX12_ringNext 3 RX12 wsX12_ringNext (some .int) D vwCl (tysM T) A false []) {ro : Int32} {so : Sg} {lo : Lg}   : ∀ (v1 : Int32) (sg : Sg) (lg : Lg), LX12_ringNext_2 (v1, sg, lg) = some (ro, so, lo) → ∀ (H : Heap) (locs : List Loc) (ls : Array Slot), WS ZM D vwCl T ad sg lg A s.heap H locs → lv_has ls 3 [(0, .ref (ad 0)), (1, .int v1)] → W p l e rmX12_ringNext s m args below meth c H locs 0 0 (MQ below (QI ZM D vwCl T (tysM T) A (fun z => ad = z) ro so lo) args s 0 0 A) (F0 m 2 ls []) := by
  have key : ∀ z : (Int32 × Sg × Lg), LX12_ringNext_2  z = some (ro, so, lo) → ∀ (H : Heap) (locs : List Loc) (ls : Array Slot), WS ZM D vwCl T ad z.2.1 z.2.2 A s.heap H locs → lv_has ls 3 [(0, .ref (ad 0)), (1, .int z.1)] → W p l e rmX12_ringNext s m args below meth c H locs 0 0 (MQ below (QI ZM D vwCl T (tysM T) A (fun z => ad = z) ro so lo) args s 0 0 A) (F0 m 2 ls []) := by
    intro z h
    unfold LX12_ringNext_2 at h
    exact loop_ind (fun rec z => fX12_ringNext_2 rec z.1 z.2.1 z.2.2) (y := (ro, so, lo)) (P := fun z => ∀ (H : Heap) (locs : List Loc) (ls : Array Slot), WS ZM D vwCl T ad z.2.1 z.2.2 A s.heap H locs → lv_has ls 3 [(0, .ref (ad 0)), (1, .int z.1)] → W p l e rmX12_ringNext s m args below meth c H locs 0 0 (MQ below (QI ZM D vwCl T (tysM T) A (fun z => ad = z) ro so lo) args s 0 0 A) (F0 m 2 ls [])) (fun rec hrec z h H locs ls hw hl => tX12_ringNext_2 C  (fun v1 sg lg => hrec (v1, sg, lg)) z.1 z.2.1 z.2.2 H locs ls hw hl h) z h
  exact fun v1 sg lg => key (v1, sg, lg)
def fX12_ringNext  (sg : Sg) (lg : Lg) : Option (Int32 × Sg × Lg) :=
  LX12_ringNext_2 ((2 : Int32), sg, lg)
set_option maxHeartbeats 4000000 in
set_option maxRecDepth 100000 in
theorem tX12_ringNext_0 (C : Cx p s m args meth c cX12_ringNext 3 RX12 wsX12_ringNext (some .int) D vwCl (tysM T) A false []) {ro : Int32} {so : Sg} {lo : Lg}   : ∀ (sg : Sg) (lg : Lg), ∀ (H : Heap) (locs : List Loc) (ls : Array Slot), WS ZM D vwCl T ad sg lg A s.heap H locs → lv_has ls 3 [(0, .ref (ad 0))] → fX12_ringNext sg lg = some (ro, so, lo) → W p l e rmX12_ringNext s m args below meth c H locs 0 0 (MQ below (QI ZM D vwCl T (tysM T) A (fun z => ad = z) ro so lo) args s 0 0 A) (F0 m 0 ls []) := by
  obtain ⟨⟨hx, hb, hml, hown, hts⟩, hr, hlk, hK, hA, hsp⟩ := id C
  intro sg lg H locs ls hw hl h
  unfold fX12_ringNext at h
  refine lv_iconst (v := (2 : Int32)) hx hb dX12_ringNext_0 (by decide) ?_
  refine lv_istore_n (lv' := [(1, .int (2 : Int32)), (0, .ref (ad 0))]) hx hb dX12_ringNext_1 rfl hl (by decide) rfl (fun ls hl => ?_)
  exact TX12_ringNext_2 C (2 : Int32) sg lg h _ _ _ hw (lv_sub hl [1, 0] rfl)
theorem mX12_ringNext (l : Launch) (D : va_G) (T : Nat → ClassId) (ad : Nat → Nat)  (sz : Nat)   (sg : Sg) (lg : Lg) {ro : Int32} {so : Sg} {lo : Lg} (h : fX12_ringNext sg lg = some (ro, so, lo)) : Met l yX12_ringNext wsX12_ringNext rmX12_ringNext (PreZ ZM D vwCl T (tysM T) ad sg lg false [] [.ref (ad 0)] sz) (QI ZM D vwCl T (tysM T) (va_A (zwd ZM T ad sg lg) sz) (fun z => ad = z) ro so lo) 0 0 (va_A (zwd ZM T ad sg lg) sz) :=
  metZ [.ref (ad 0)] sz (by decide) rfl (Nat.le_of_ble_eq_true rfl) (fun p e s m below meth c ls C hw hl => tX12_ringNext_0 C sg lg _ _ _ hw hl h)
-- PeckYardModel.pack()J
def rmX12_pack : Room := { frames := 23, cells := 0, slots := 0, locals := 588 }
theorem kX12_pack_f212 : Cond.fieldLink RX12 212 "PeckYardModel" "ringCount" "I" ∈ wsX12_pack := by decide +kernel
theorem kX12_pack_iX12 : ∀ w ∈ u_ws RX12 TX12 18, w ∈ wsX12_pack := by decide +kernel
theorem kX12_pack_c131 : Cond.constantLong RX12 131 (1000000000000000) ∈ wsX12_pack := by decide +kernel
theorem kX12_pack_f46 : Cond.fieldLink RX12 46 "PeckYardModel" "rings" "[J" ∈ wsX12_pack := by decide +kernel
theorem kX12_pack_f43 : Cond.fieldLink RX12 43 "PeckYardModel" "row" "[I" ∈ wsX12_pack := by decide +kernel
theorem kX12_pack_f40 : Cond.fieldLink RX12 40 "PeckYardModel" "left" "[I" ∈ wsX12_pack := by decide +kernel
def fX12_pack_181 (r77 : (Int64 × Int32 × Sg × Lg) → Option (Int64 × Sg × Lg)) (r181 : (Int64 × Int32 × Int64 × Int32 × Sg × Lg) → Option (Int64 × Sg × Lg)) (v1 : Int64) (v3 : Int32) (v4 : Int64) (v6 : Int32) (sg : Sg) (lg : Lg) : Option (Int64 × Sg × Lg) :=
  (if v3 ≤ v6 then lt ((sg 0 17) + (1 : Int32)) (fun x2 => lt (up2 sg 0 17 x2) (fun sg3 => lt (v1 + v4) (fun x4 => bnd3 (fX12_ringNext sg3 lg) (fun y5 sg6 lg7 => r77 (x4, y5, sg6, lg7))))) else gin v6 12 (lt ((sg 11 v6.toNatClampNeg).toInt64) (fun x10 => gin ((((14 : Int32) * (sg 0 17)) + (2 : Int32)) + v6) 1960 (lt (up2L lg 12 ((((14 : Int32) * (sg 0 17)) + (2 : Int32)) + v6).toNatClampNeg x10) (fun lg12 => gin v6 12 (gne v3 (lt ((v6 + (1 : Int32)) - (v6 + (1 : Int32)) / v3 * v3) (fun x15 => gin x15 12 (lt (((12 : Int32) * (sg 11 v6.toNatClampNeg)) + (sg 11 x15.toNatClampNeg)) (fun x17 => gin x17 144 (lt ((sg 10 x17.toNatClampNeg) - v4.toInt32) (fun x19 => gin x17 144 (lt (up2 sg 10 x17.toNatClampNeg x19) (fun sg21 => lt (v6 + (1 : Int32)) (fun x22 => r181 (v1, v3, v4, x22, sg21, lg12))))))))))))))))
set_option maxHeartbeats 4000000 in
set_option maxRecDepth 100000 in
theorem tX12_pack_181 (C : Cx p s m args meth c cX12_pack 9 RX12 wsX12_pack (some .long) D vwCl (tysM T) A false []) {ro : Int64} {so : Sg} {lo : Lg} {r77 : (Int64 × Int32 × Sg × Lg) → Option (Int64 × Sg × Lg)} {r181 : (Int64 × Int32 × Int64 × Int32 × Sg × Lg) → Option (Int64 × Sg × Lg)} (hr77 : ∀ (v1 : Int64) (v3 : Int32) (sg : Sg) (lg : Lg), r77 (v1, v3, sg, lg) = some (ro, so, lo) → ∀ (H : Heap) (locs : List Loc) (ls : Array Slot), WS ZM D vwCl T ad sg lg A s.heap H locs → lv_has ls 9 [(0, .ref (ad 0)), (1, .long v1), (3, .int v3)] → W p l e rmX12_pack s m args below meth c H locs 0 0 (MQ below (QL ZM D vwCl T (tysM T) A (fun z => ad = z) ro so lo) args s 0 0 A) (F0 m 77 ls [])) (hr181 : ∀ (v1 : Int64) (v3 : Int32) (v4 : Int64) (v6 : Int32) (sg : Sg) (lg : Lg), r181 (v1, v3, v4, v6, sg, lg) = some (ro, so, lo) → ∀ (H : Heap) (locs : List Loc) (ls : Array Slot), WS ZM D vwCl T ad sg lg A s.heap H locs → lv_has ls 9 [(0, .ref (ad 0)), (1, .long v1), (3, .int v3), (4, .long v4), (6, .int v6)] → W p l e rmX12_pack s m args below meth c H locs 0 0 (MQ below (QL ZM D vwCl T (tysM T) A (fun z => ad = z) ro so lo) args s 0 0 A) (F0 m 181 ls [])) : ∀ (v1 : Int64) (v3 : Int32) (v4 : Int64) (v6 : Int32) (sg : Sg) (lg : Lg), ∀ (H : Heap) (locs : List Loc) (ls : Array Slot), WS ZM D vwCl T ad sg lg A s.heap H locs → lv_has ls 9 [(0, .ref (ad 0)), (1, .long v1), (3, .int v3), (4, .long v4), (6, .int v6)] → fX12_pack_181 r77 r181 v1 v3 v4 v6 sg lg = some (ro, so, lo) → W p l e rmX12_pack s m args below meth c H locs 0 0 (MQ below (QL ZM D vwCl T (tysM T) A (fun z => ad = z) ro so lo) args s 0 0 A) (F0 m 181 ls []) := by
  obtain ⟨⟨hx, hb, hml, hown, hts⟩, hr, hlk, hK, hA, hsp⟩ := id C
  intro v1 v3 v4 v6 sg lg H locs ls hw hl h
  unfold fX12_pack_181 at h
  refine lv_iload hx hb dX12_pack_181 (lv_at hl 4 rfl) ?_
  refine lv_iload_n hx hb dX12_pack_183 rfl (lv_at hl 2 rfl) ?_
  refine lv_icmp_ge (tgt := 251) hx hb dX12_pack_184 (by decide) (fun c1 => ?_) (fun c1 => ?_)
  · replace h := ite_t h c1
    refine lv_aload_n hx hb dX12_pack_251 rfl (lv_at hl 0 rfl) ?_
    refine lv_dup hx hb dX12_pack_252 rfl ?_
    refine r_getI (ci := 12) (C := RX12) (U := TX12) (N := 18) hx hb hts kX12_pack_iX12 hown hK hw 0 (by decide) rfl rfl 17 (by decide) rfl (hts _ kX12_pack_f212) (fun _ h9 => h9) dX12_pack_253 ?_
    refine lv_iconst (v := (1 : Int32)) hx hb dX12_pack_256 (by decide) ?_
    refine lv_iadd hx hb dX12_pack_257 ?_
    refine lv_topi (fun x2 ex2 => ?_)
    replace h := lt_get h x2 ex2
    refine r_putI ZM_ok (ci := 12) (C := RX12) (U := TX12) (N := 18) (ty := .int) hx hb hts kX12_pack_iX12 tyX12 tyX12_ok nmX12 hown hK hw 0 (by decide) rfl rfl 17 (by decide) rfl (hts _ kX12_pack_f212) (fun _ h9 => h9) rfl (by decide +kernel) rfl rfl dX12_pack_258 (fun H locs sg3 esg3 hw => ?_)
    replace h := lt_get h sg3 esg3
    refine lv_lload_n hx hb dX12_pack_261 rfl (lv_at hl 1 rfl) ?_
    refine lv_lload hx hb dX12_pack_262 (lv_at hl 3 rfl) ?_
    refine lv_ladd hx hb dX12_pack_264 ?_
    refine lv_topl (fun x4 ex4 => ?_)
    replace h := lt_get h x4 ex4
    refine lv_lstore_n (lv' := [(1, .long x4), (0, .ref (ad 0)), (3, .int v3), (4, .long v4), (6, .int v6)]) hx hb dX12_pack_265 rfl hl (by decide) rfl (fun ls hl => ?_)
    refine lv_aload_n hx hb dX12_pack_266 rfl (lv_at hl 1 rfl) ?_
    obtain ⟨y5, sg6, lg7, hq8, h2⟩ := bnd3_some h
    replace h := h2
    clear h2
    refine r_cVi (As := []) (rest := []) C hw 0 (by decide) (ci := 12) rfl rfl (mX12_ringNext l D T ad  H.size sg3 lg hq8) (cwV 0 hts gX12_pack_X12_ringNext rfl rfl rfl (by decide +kernel) ⟨Nat.le_of_ble_eq_true rfl, Nat.le_of_ble_eq_true rfl⟩) rfl hl.1 rfl (Nat.le_of_ble_eq_true rfl) dX12_pack_267 ⟨Nat.le_of_ble_eq_true rfl, Nat.le_of_ble_eq_true rfl⟩ (fun ad' H locs hp hw => ?_)
    subst hp
    refine W.widen (k := 0) (n := 0) (by decide) (by decide) ?_
    refine lv_istore_n (lv' := [(3, .int y5), (1, .long x4), (0, .ref (ad 0)), (4, .long v4), (6, .int v6)]) hx hb dX12_pack_270 rfl hl (by decide) rfl (fun ls hl => ?_)
    refine lv_goto (tgt := 77) hx hb dX12_pack_271 (by decide) ?_
    exact hr77 x4 y5 sg6 lg7 h _ _ _ hw (lv_sub hl [2, 1, 0] rfl)
  · replace h := ite_f h c1
    refine lv_aload_n hx hb dX12_pack_187 rfl (lv_at hl 0 rfl) ?_
    refine r_getR (ci := 12) (C := RX12) (U := TX12) (N := 18) hx hb hts kX12_pack_iX12 hown hK hw 0 (by decide) rfl rfl 16 (by decide) 12 rfl (hts _ kX12_pack_f46) (fun _ h9 => h9) dX12_pack_188 ?_
    refine lv_bipush (v := (14 : Int32)) hx hb dX12_pack_191 (by decide) ?_
    refine lv_aload_n hx hb dX12_pack_193 rfl (lv_at hl 0 rfl) ?_
    refine r_getI (ci := 12) (C := RX12) (U := TX12) (N := 18) hx hb hts kX12_pack_iX12 hown hK hw 0 (by decide) rfl rfl 17 (by decide) rfl (hts _ kX12_pack_f212) (fun _ h9 => h9) dX12_pack_194 ?_
    refine lv_imul hx hb dX12_pack_197 ?_
    refine lv_iconst (v := (2 : Int32)) hx hb dX12_pack_198 (by decide) ?_
    refine lv_iadd hx hb dX12_pack_199 ?_
    refine lv_iload hx hb dX12_pack_200 (lv_at hl 4 rfl) ?_
    refine lv_iadd hx hb dX12_pack_202 ?_
    refine lv_aload_n hx hb dX12_pack_203 rfl (lv_at hl 0 rfl) ?_
    refine r_getR (ci := 12) (C := RX12) (U := TX12) (N := 18) hx hb hts kX12_pack_iX12 hown hK hw 0 (by decide) rfl rfl 15 (by decide) 11 rfl (hts _ kX12_pack_f43) (fun _ h9 => h9) dX12_pack_204 ?_
    refine lv_iload hx hb dX12_pack_207 (lv_at hl 4 rfl) ?_
    have hi9 := (gin_some h).1
    replace h := (gin_some h).2
    refine r_iald hx hb hK hw 11 0 12 (by decide) rfl rfl rfl hi9 dX12_pack_209 ?_
    refine lv_i2l (v := (sg 11 v6.toNatClampNeg).toInt64) hx hb dX12_pack_210 rfl ?_
    refine lv_topl (fun x10 ex10 => ?_)
    replace h := lt_get h x10 ex10
    have hi11 := (gin_some h).1
    replace h := (gin_some h).2
    refine r_last hx hb hK hw 12 2 1960 (by decide) rfl rfl rfl hi11 dX12_pack_211 (fun H locs lg12 elg12 hw => ?_)
    replace h := lt_get h lg12 elg12
    refine lv_aload_n hx hb dX12_pack_212 rfl (lv_at hl 0 rfl) ?_
    refine r_getR (ci := 12) (C := RX12) (U := TX12) (N := 18) hx hb hts kX12_pack_iX12 hown hK hw 0 (by decide) rfl rfl 14 (by decide) 10 rfl (hts _ kX12_pack_f40) (fun _ h9 => h9) dX12_pack_213 ?_
    refine lv_bipush (v := (12 : Int32)) hx hb dX12_pack_216 (by decide) ?_
    refine lv_aload_n hx hb dX12_pack_218 rfl (lv_at hl 0 rfl) ?_
    refine r_getR (ci := 12) (C := RX12) (U := TX12) (N := 18) hx hb hts kX12_pack_iX12 hown hK hw 0 (by decide) rfl rfl 15 (by decide) 11 rfl (hts _ kX12_pack_f43) (fun _ h9 => h9) dX12_pack_219 ?_
    refine lv_iload hx hb dX12_pack_222 (lv_at hl 4 rfl) ?_
    have hi13 := (gin_some h).1
    replace h := (gin_some h).2
    refine r_iald hx hb hK hw 11 0 12 (by decide) rfl rfl rfl hi13 dX12_pack_224 ?_
    refine lv_imul hx hb dX12_pack_225 ?_
    refine lv_aload_n hx hb dX12_pack_226 rfl (lv_at hl 0 rfl) ?_
    refine r_getR (ci := 12) (C := RX12) (U := TX12) (N := 18) hx hb hts kX12_pack_iX12 hown hK hw 0 (by decide) rfl rfl 15 (by decide) 11 rfl (hts _ kX12_pack_f43) (fun _ h9 => h9) dX12_pack_227 ?_
    refine lv_iload hx hb dX12_pack_230 (lv_at hl 4 rfl) ?_
    refine lv_iconst (v := (1 : Int32)) hx hb dX12_pack_232 (by decide) ?_
    refine lv_iadd hx hb dX12_pack_233 ?_
    refine lv_iload_n hx hb dX12_pack_234 rfl (lv_at hl 2 rfl) ?_
    have hd14 := (gne_some h).1
    replace h := (gne_some h).2
    refine lv_irem hx hb dX12_pack_235 hd14 ?_
    refine lv_topi (fun x15 ex15 => ?_)
    replace h := lt_get h x15 ex15
    have hi16 := (gin_some h).1
    replace h := (gin_some h).2
    refine r_iald hx hb hK hw 11 0 12 (by decide) rfl rfl rfl hi16 dX12_pack_236 ?_
    refine lv_iadd hx hb dX12_pack_237 ?_
    refine lv_topi (fun x17 ex17 => ?_)
    replace h := lt_get h x17 ex17
    refine lv_dup2_11 hx hb dX12_pack_238 rfl rfl ?_
    have hi18 := (gin_some h).1
    replace h := (gin_some h).2
    refine r_iald hx hb hK hw 10 0 144 (by decide) rfl rfl rfl hi18 dX12_pack_239 ?_
    refine lv_lload hx hb dX12_pack_240 (lv_at hl 3 rfl) ?_
    refine lv_l2i (v := v4.toInt32) hx hb dX12_pack_242 rfl ?_
    refine lv_isub hx hb dX12_pack_243 ?_
    refine lv_topi (fun x19 ex19 => ?_)
    replace h := lt_get h x19 ex19
    have hi20 := (gin_some h).1
    replace h := (gin_some h).2
    refine r_iast ZM_ok hx hb hK hw 10 0 144 (by decide) rfl rfl rfl hi20 dX12_pack_244 (fun H locs sg21 esg21 hw => ?_)
    replace h := lt_get h sg21 esg21
    obtain ⟨x22, ex22⟩ : ∃ z : Int32, z = (v6 + (1 : Int32)) := ⟨_, rfl⟩
    replace h := lt_get h x22 ex22
    refine lv_iinc (v := x22) (lv' := [(6, .int x22), (0, .ref (ad 0)), (1, .long v1), (3, .int v3), (4, .long v4)]) hx hb dX12_pack_245 hl (k := 4) rfl (by rw [ex22]; rfl) (by decide) rfl (fun ls hl => ?_)
    refine lv_goto (tgt := 181) hx hb dX12_pack_248 (by decide) ?_
    exact hr181 v1 v3 v4 x22 sg21 lg12 h _ _ _ hw (lv_sub hl [1, 2, 3, 4, 0] rfl)
def LX12_pack_181 (r77 : (Int64 × Int32 × Sg × Lg) → Option (Int64 × Sg × Lg)) : (Int64 × Int32 × Int64 × Int32 × Sg × Lg) → Option (Int64 × Sg × Lg) := loop (fun rec z => fX12_pack_181 r77 rec z.1 z.2.1 z.2.2.1 z.2.2.2.1 z.2.2.2.2.1 z.2.2.2.2.2)
theorem TX12_pack_181 (C : Cx p s m args meth c cX12_pack 9 RX12 wsX12_pack (some .long) D vwCl (tysM T) A false []) {ro : Int64} {so : Sg} {lo : Lg} {r77 : (Int64 × Int32 × Sg × Lg) → Option (Int64 × Sg × Lg)} (hr77 : ∀ (v1 : Int64) (v3 : Int32) (sg : Sg) (lg : Lg), r77 (v1, v3, sg, lg) = some (ro, so, lo) → ∀ (H : Heap) (locs : List Loc) (ls : Array Slot), WS ZM D vwCl T ad sg lg A s.heap H locs → lv_has ls 9 [(0, .ref (ad 0)), (1, .long v1), (3, .int v3)] → W p l e rmX12_pack s m args below meth c H locs 0 0 (MQ below (QL ZM D vwCl T (tysM T) A (fun z => ad = z) ro so lo) args s 0 0 A) (F0 m 77 ls [])) : ∀ (v1 : Int64) (v3 : Int32) (v4 : Int64) (v6 : Int32) (sg : Sg) (lg : Lg), LX12_pack_181 r77 (v1, v3, v4, v6, sg, lg) = some (ro, so, lo) → ∀ (H : Heap) (locs : List Loc) (ls : Array Slot), WS ZM D vwCl T ad sg lg A s.heap H locs → lv_has ls 9 [(0, .ref (ad 0)), (1, .long v1), (3, .int v3), (4, .long v4), (6, .int v6)] → W p l e rmX12_pack s m args below meth c H locs 0 0 (MQ below (QL ZM D vwCl T (tysM T) A (fun z => ad = z) ro so lo) args s 0 0 A) (F0 m 181 ls []) := by
  have key : ∀ z : (Int64 × Int32 × Int64 × Int32 × Sg × Lg), LX12_pack_181 r77 z = some (ro, so, lo) → ∀ (H : Heap) (locs : List Loc) (ls : Array Slot), WS ZM D vwCl T ad z.2.2.2.2.1 z.2.2.2.2.2 A s.heap H locs → lv_has ls 9 [(0, .ref (ad 0)), (1, .long z.1), (3, .int z.2.1), (4, .long z.2.2.1), (6, .int z.2.2.2.1)] → W p l e rmX12_pack s m args below meth c H locs 0 0 (MQ below (QL ZM D vwCl T (tysM T) A (fun z => ad = z) ro so lo) args s 0 0 A) (F0 m 181 ls []) := by
    intro z h
    unfold LX12_pack_181 at h
    exact loop_ind (fun rec z => fX12_pack_181 r77 rec z.1 z.2.1 z.2.2.1 z.2.2.2.1 z.2.2.2.2.1 z.2.2.2.2.2) (y := (ro, so, lo)) (P := fun z => ∀ (H : Heap) (locs : List Loc) (ls : Array Slot), WS ZM D vwCl T ad z.2.2.2.2.1 z.2.2.2.2.2 A s.heap H locs → lv_has ls 9 [(0, .ref (ad 0)), (1, .long z.1), (3, .int z.2.1), (4, .long z.2.2.1), (6, .int z.2.2.2.1)] → W p l e rmX12_pack s m args below meth c H locs 0 0 (MQ below (QL ZM D vwCl T (tysM T) A (fun z => ad = z) ro so lo) args s 0 0 A) (F0 m 181 ls [])) (fun rec hrec z h H locs ls hw hl => tX12_pack_181 C hr77 (fun v1 v3 v4 v6 sg lg => hrec (v1, v3, v4, v6, sg, lg)) z.1 z.2.1 z.2.2.1 z.2.2.2.1 z.2.2.2.2.1 z.2.2.2.2.2 H locs ls hw hl h) z h
  exact fun v1 v3 v4 v6 sg lg => key (v1, v3, v4, v6, sg, lg)
def fX12_pack_140 (r77 : (Int64 × Int32 × Sg × Lg) → Option (Int64 × Sg × Lg)) (r89 : (Int64 × Int32 × Int64 × Int32 × Sg × Lg) → Option (Int64 × Sg × Lg)) (v1 : Int64) (v3 : Int32) (v6 : Int32) (w0 : Int64) (sg : Sg) (lg : Lg) : Option (Int64 × Sg × Lg) :=
  lt (v6 + (1 : Int32)) (fun x1 => r89 (v1, v3, w0, x1, sg, lg))
set_option maxHeartbeats 4000000 in
set_option maxRecDepth 100000 in
theorem tX12_pack_140 (C : Cx p s m args meth c cX12_pack 9 RX12 wsX12_pack (some .long) D vwCl (tysM T) A false []) {ro : Int64} {so : Sg} {lo : Lg} {r77 : (Int64 × Int32 × Sg × Lg) → Option (Int64 × Sg × Lg)} {r89 : (Int64 × Int32 × Int64 × Int32 × Sg × Lg) → Option (Int64 × Sg × Lg)} (hr77 : ∀ (v1 : Int64) (v3 : Int32) (sg : Sg) (lg : Lg), r77 (v1, v3, sg, lg) = some (ro, so, lo) → ∀ (H : Heap) (locs : List Loc) (ls : Array Slot), WS ZM D vwCl T ad sg lg A s.heap H locs → lv_has ls 9 [(0, .ref (ad 0)), (1, .long v1), (3, .int v3)] → W p l e rmX12_pack s m args below meth c H locs 0 0 (MQ below (QL ZM D vwCl T (tysM T) A (fun z => ad = z) ro so lo) args s 0 0 A) (F0 m 77 ls [])) (hr89 : ∀ (v1 : Int64) (v3 : Int32) (v4 : Int64) (v6 : Int32) (sg : Sg) (lg : Lg), r89 (v1, v3, v4, v6, sg, lg) = some (ro, so, lo) → ∀ (H : Heap) (locs : List Loc) (ls : Array Slot), WS ZM D vwCl T ad sg lg A s.heap H locs → lv_has ls 9 [(0, .ref (ad 0)), (1, .long v1), (3, .int v3), (4, .long v4), (6, .int v6)] → W p l e rmX12_pack s m args below meth c H locs 0 0 (MQ below (QL ZM D vwCl T (tysM T) A (fun z => ad = z) ro so lo) args s 0 0 A) (F0 m 89 ls [])) : ∀ (v1 : Int64) (v3 : Int32) (v6 : Int32) (w0 : Int64) (sg : Sg) (lg : Lg), ∀ (H : Heap) (locs : List Loc) (ls : Array Slot), WS ZM D vwCl T ad sg lg A s.heap H locs → lv_has ls 9 [(0, .ref (ad 0)), (1, .long v1), (3, .int v3), (6, .int v6)] → fX12_pack_140 r77 r89 v1 v3 v6 w0 sg lg = some (ro, so, lo) → W p l e rmX12_pack s m args below meth c H locs 0 0 (MQ below (QL ZM D vwCl T (tysM T) A (fun z => ad = z) ro so lo) args s 0 0 A) (F0 m 140 ls [.long w0]) := by
  obtain ⟨⟨hx, hb, hml, hown, hts⟩, hr, hlk, hK, hA, hsp⟩ := id C
  intro v1 v3 v6 w0 sg lg H locs ls hw hl h
  unfold fX12_pack_140 at h
  refine lv_lstore (lv' := [(4, .long w0), (0, .ref (ad 0)), (1, .long v1), (3, .int v3), (6, .int v6)]) hx hb dX12_pack_140 hl (by decide) rfl (fun ls hl => ?_)
  obtain ⟨x1, ex1⟩ : ∃ z : Int32, z = (v6 + (1 : Int32)) := ⟨_, rfl⟩
  replace h := lt_get h x1 ex1
  refine lv_iinc (v := x1) (lv' := [(6, .int x1), (4, .long w0), (0, .ref (ad 0)), (1, .long v1), (3, .int v3)]) hx hb dX12_pack_142 hl (k := 4) rfl (by rw [ex1]; rfl) (by decide) rfl (fun ls hl => ?_)
  refine lv_goto (tgt := 89) hx hb dX12_pack_145 (by decide) ?_
  exact hr89 v1 v3 w0 x1 sg lg h _ _ _ hw (lv_sub hl [2, 3, 4, 1, 0] rfl)
def fX12_pack_89 (r77 : (Int64 × Int32 × Sg × Lg) → Option (Int64 × Sg × Lg)) (r89 : (Int64 × Int32 × Int64 × Int32 × Sg × Lg) → Option (Int64 × Sg × Lg)) (v1 : Int64) (v3 : Int32) (v4 : Int64) (v6 : Int32) (sg : Sg) (lg : Lg) : Option (Int64 × Sg × Lg) :=
  (if v3 ≤ v6 then gin ((14 : Int32) * (sg 0 17)) 1960 (lt (up2L lg 12 ((14 : Int32) * (sg 0 17)).toNatClampNeg v4) (fun lg3 => gin (((14 : Int32) * (sg 0 17)) + (1 : Int32)) 1960 (lt (up2L lg3 12 (((14 : Int32) * (sg 0 17)) + (1 : Int32)).toNatClampNeg v3.toInt64) (fun lg5 => LX12_pack_181 r77 (v1, v3, v4, (0 : Int32), sg, lg5))))) else gin v6 12 (gne v3 (lt ((v6 + (1 : Int32)) - (v6 + (1 : Int32)) / v3 * v3) (fun x8 => gin x8 12 (lt (((12 : Int32) * (sg 11 v6.toNatClampNeg)) + (sg 11 x8.toNatClampNeg)) (fun x10 => gin x10 144 (lt ((sg 10 x10.toNatClampNeg).toInt64) (fun x12 => (if v4 ≤ x12 then fX12_pack_140 r77 r89 v1 v3 v6 v4 sg lg else fX12_pack_140 r77 r89 v1 v3 v6 x12 sg lg)))))))))
set_option maxHeartbeats 4000000 in
set_option maxRecDepth 100000 in
theorem tX12_pack_89 (C : Cx p s m args meth c cX12_pack 9 RX12 wsX12_pack (some .long) D vwCl (tysM T) A false []) {ro : Int64} {so : Sg} {lo : Lg} {r77 : (Int64 × Int32 × Sg × Lg) → Option (Int64 × Sg × Lg)} {r89 : (Int64 × Int32 × Int64 × Int32 × Sg × Lg) → Option (Int64 × Sg × Lg)} (hr77 : ∀ (v1 : Int64) (v3 : Int32) (sg : Sg) (lg : Lg), r77 (v1, v3, sg, lg) = some (ro, so, lo) → ∀ (H : Heap) (locs : List Loc) (ls : Array Slot), WS ZM D vwCl T ad sg lg A s.heap H locs → lv_has ls 9 [(0, .ref (ad 0)), (1, .long v1), (3, .int v3)] → W p l e rmX12_pack s m args below meth c H locs 0 0 (MQ below (QL ZM D vwCl T (tysM T) A (fun z => ad = z) ro so lo) args s 0 0 A) (F0 m 77 ls [])) (hr89 : ∀ (v1 : Int64) (v3 : Int32) (v4 : Int64) (v6 : Int32) (sg : Sg) (lg : Lg), r89 (v1, v3, v4, v6, sg, lg) = some (ro, so, lo) → ∀ (H : Heap) (locs : List Loc) (ls : Array Slot), WS ZM D vwCl T ad sg lg A s.heap H locs → lv_has ls 9 [(0, .ref (ad 0)), (1, .long v1), (3, .int v3), (4, .long v4), (6, .int v6)] → W p l e rmX12_pack s m args below meth c H locs 0 0 (MQ below (QL ZM D vwCl T (tysM T) A (fun z => ad = z) ro so lo) args s 0 0 A) (F0 m 89 ls [])) : ∀ (v1 : Int64) (v3 : Int32) (v4 : Int64) (v6 : Int32) (sg : Sg) (lg : Lg), ∀ (H : Heap) (locs : List Loc) (ls : Array Slot), WS ZM D vwCl T ad sg lg A s.heap H locs → lv_has ls 9 [(0, .ref (ad 0)), (1, .long v1), (3, .int v3), (4, .long v4), (6, .int v6)] → fX12_pack_89 r77 r89 v1 v3 v4 v6 sg lg = some (ro, so, lo) → W p l e rmX12_pack s m args below meth c H locs 0 0 (MQ below (QL ZM D vwCl T (tysM T) A (fun z => ad = z) ro so lo) args s 0 0 A) (F0 m 89 ls []) := by
  obtain ⟨⟨hx, hb, hml, hown, hts⟩, hr, hlk, hK, hA, hsp⟩ := id C
  intro v1 v3 v4 v6 sg lg H locs ls hw hl h
  unfold fX12_pack_89 at h
  refine lv_iload hx hb dX12_pack_89 (lv_at hl 4 rfl) ?_
  refine lv_iload_n hx hb dX12_pack_91 rfl (lv_at hl 2 rfl) ?_
  refine lv_icmp_ge (tgt := 148) hx hb dX12_pack_92 (by decide) (fun c1 => ?_) (fun c1 => ?_)
  · replace h := ite_t h c1
    refine lv_aload_n hx hb dX12_pack_148 rfl (lv_at hl 0 rfl) ?_
    refine r_getR (ci := 12) (C := RX12) (U := TX12) (N := 18) hx hb hts kX12_pack_iX12 hown hK hw 0 (by decide) rfl rfl 16 (by decide) 12 rfl (hts _ kX12_pack_f46) (fun _ h9 => h9) dX12_pack_149 ?_
    refine lv_bipush (v := (14 : Int32)) hx hb dX12_pack_152 (by decide) ?_
    refine lv_aload_n hx hb dX12_pack_154 rfl (lv_at hl 0 rfl) ?_
    refine r_getI (ci := 12) (C := RX12) (U := TX12) (N := 18) hx hb hts kX12_pack_iX12 hown hK hw 0 (by decide) rfl rfl 17 (by decide) rfl (hts _ kX12_pack_f212) (fun _ h9 => h9) dX12_pack_155 ?_
    refine lv_imul hx hb dX12_pack_158 ?_
    refine lv_lload hx hb dX12_pack_159 (lv_at hl 3 rfl) ?_
    have hi2 := (gin_some h).1
    replace h := (gin_some h).2
    refine r_last hx hb hK hw 12 2 1960 (by decide) rfl rfl rfl hi2 dX12_pack_161 (fun H locs lg3 elg3 hw => ?_)
    replace h := lt_get h lg3 elg3
    refine lv_aload_n hx hb dX12_pack_162 rfl (lv_at hl 0 rfl) ?_
    refine r_getR (ci := 12) (C := RX12) (U := TX12) (N := 18) hx hb hts kX12_pack_iX12 hown hK hw 0 (by decide) rfl rfl 16 (by decide) 12 rfl (hts _ kX12_pack_f46) (fun _ h9 => h9) dX12_pack_163 ?_
    refine lv_bipush (v := (14 : Int32)) hx hb dX12_pack_166 (by decide) ?_
    refine lv_aload_n hx hb dX12_pack_168 rfl (lv_at hl 0 rfl) ?_
    refine r_getI (ci := 12) (C := RX12) (U := TX12) (N := 18) hx hb hts kX12_pack_iX12 hown hK hw 0 (by decide) rfl rfl 17 (by decide) rfl (hts _ kX12_pack_f212) (fun _ h9 => h9) dX12_pack_169 ?_
    refine lv_imul hx hb dX12_pack_172 ?_
    refine lv_iconst (v := (1 : Int32)) hx hb dX12_pack_173 (by decide) ?_
    refine lv_iadd hx hb dX12_pack_174 ?_
    refine lv_iload_n hx hb dX12_pack_175 rfl (lv_at hl 2 rfl) ?_
    refine lv_i2l (v := v3.toInt64) hx hb dX12_pack_176 rfl ?_
    have hi4 := (gin_some h).1
    replace h := (gin_some h).2
    refine r_last hx hb hK hw 12 2 1960 (by decide) rfl rfl rfl hi4 dX12_pack_177 (fun H locs lg5 elg5 hw => ?_)
    replace h := lt_get h lg5 elg5
    refine lv_iconst (v := (0 : Int32)) hx hb dX12_pack_178 (by decide) ?_
    refine lv_istore (lv' := [(6, .int (0 : Int32)), (0, .ref (ad 0)), (1, .long v1), (3, .int v3), (4, .long v4)]) hx hb dX12_pack_179 hl (by decide) rfl (fun ls hl => ?_)
    exact TX12_pack_181 C hr77 v1 v3 v4 (0 : Int32) sg lg5 h _ _ _ hw (lv_sub hl [1, 2, 3, 4, 0] rfl)
  · replace h := ite_f h c1
    refine lv_aload_n hx hb dX12_pack_95 rfl (lv_at hl 0 rfl) ?_
    refine r_getR (ci := 12) (C := RX12) (U := TX12) (N := 18) hx hb hts kX12_pack_iX12 hown hK hw 0 (by decide) rfl rfl 14 (by decide) 10 rfl (hts _ kX12_pack_f40) (fun _ h9 => h9) dX12_pack_96 ?_
    refine lv_bipush (v := (12 : Int32)) hx hb dX12_pack_99 (by decide) ?_
    refine lv_aload_n hx hb dX12_pack_101 rfl (lv_at hl 0 rfl) ?_
    refine r_getR (ci := 12) (C := RX12) (U := TX12) (N := 18) hx hb hts kX12_pack_iX12 hown hK hw 0 (by decide) rfl rfl 15 (by decide) 11 rfl (hts _ kX12_pack_f43) (fun _ h9 => h9) dX12_pack_102 ?_
    refine lv_iload hx hb dX12_pack_105 (lv_at hl 4 rfl) ?_
    have hi6 := (gin_some h).1
    replace h := (gin_some h).2
    refine r_iald hx hb hK hw 11 0 12 (by decide) rfl rfl rfl hi6 dX12_pack_107 ?_
    refine lv_imul hx hb dX12_pack_108 ?_
    refine lv_aload_n hx hb dX12_pack_109 rfl (lv_at hl 0 rfl) ?_
    refine r_getR (ci := 12) (C := RX12) (U := TX12) (N := 18) hx hb hts kX12_pack_iX12 hown hK hw 0 (by decide) rfl rfl 15 (by decide) 11 rfl (hts _ kX12_pack_f43) (fun _ h9 => h9) dX12_pack_110 ?_
    refine lv_iload hx hb dX12_pack_113 (lv_at hl 4 rfl) ?_
    refine lv_iconst (v := (1 : Int32)) hx hb dX12_pack_115 (by decide) ?_
    refine lv_iadd hx hb dX12_pack_116 ?_
    refine lv_iload_n hx hb dX12_pack_117 rfl (lv_at hl 2 rfl) ?_
    have hd7 := (gne_some h).1
    replace h := (gne_some h).2
    refine lv_irem hx hb dX12_pack_118 hd7 ?_
    refine lv_topi (fun x8 ex8 => ?_)
    replace h := lt_get h x8 ex8
    have hi9 := (gin_some h).1
    replace h := (gin_some h).2
    refine r_iald hx hb hK hw 11 0 12 (by decide) rfl rfl rfl hi9 dX12_pack_119 ?_
    refine lv_iadd hx hb dX12_pack_120 ?_
    refine lv_topi (fun x10 ex10 => ?_)
    replace h := lt_get h x10 ex10
    have hi11 := (gin_some h).1
    replace h := (gin_some h).2
    refine r_iald hx hb hK hw 10 0 144 (by decide) rfl rfl rfl hi11 dX12_pack_121 ?_
    refine lv_i2l (v := (sg 10 x10.toNatClampNeg).toInt64) hx hb dX12_pack_122 rfl ?_
    refine lv_topl (fun x12 ex12 => ?_)
    replace h := lt_get h x12 ex12
    refine lv_lstore (lv' := [(7, .long x12), (0, .ref (ad 0)), (1, .long v1), (3, .int v3), (4, .long v4), (6, .int v6)]) hx hb dX12_pack_123 hl (by decide) rfl (fun ls hl => ?_)
    refine lv_lload hx hb dX12_pack_125 (lv_at hl 0 rfl) ?_
    refine lv_lload hx hb dX12_pack_127 (lv_at hl 4 rfl) ?_
    refine W.lcmp hx hb dX12_pack_129 ?_
    refine lv_if_ge (tgt := 138) hx hb dX12_pack_130 (by decide) (fun c13 => ?_) (fun c13 => ?_)
    · replace h := ite_t h ((lg_cmp_ge _ _).mp c13)
      refine lv_lload hx hb dX12_pack_138 (lv_at hl 4 rfl) ?_
      exact tX12_pack_140 C hr77 hr89 v1 v3 v6 v4 sg lg _ _ _ hw (lv_sub hl [1, 2, 3, 5] rfl) h
    · replace h := ite_f h (fun z => c13 ((lg_cmp_ge _ _).mpr z))
      refine lv_lload hx hb dX12_pack_133 (lv_at hl 0 rfl) ?_
      refine lv_goto (tgt := 140) hx hb dX12_pack_135 (by decide) ?_
      exact tX12_pack_140 C hr77 hr89 v1 v3 v6 x12 sg lg _ _ _ hw (lv_sub hl [1, 2, 3, 5] rfl) h
def LX12_pack_89 (r77 : (Int64 × Int32 × Sg × Lg) → Option (Int64 × Sg × Lg)) : (Int64 × Int32 × Int64 × Int32 × Sg × Lg) → Option (Int64 × Sg × Lg) := loop (fun rec z => fX12_pack_89 r77 rec z.1 z.2.1 z.2.2.1 z.2.2.2.1 z.2.2.2.2.1 z.2.2.2.2.2)
theorem TX12_pack_89 (C : Cx p s m args meth c cX12_pack 9 RX12 wsX12_pack (some .long) D vwCl (tysM T) A false []) {ro : Int64} {so : Sg} {lo : Lg} {r77 : (Int64 × Int32 × Sg × Lg) → Option (Int64 × Sg × Lg)} (hr77 : ∀ (v1 : Int64) (v3 : Int32) (sg : Sg) (lg : Lg), r77 (v1, v3, sg, lg) = some (ro, so, lo) → ∀ (H : Heap) (locs : List Loc) (ls : Array Slot), WS ZM D vwCl T ad sg lg A s.heap H locs → lv_has ls 9 [(0, .ref (ad 0)), (1, .long v1), (3, .int v3)] → W p l e rmX12_pack s m args below meth c H locs 0 0 (MQ below (QL ZM D vwCl T (tysM T) A (fun z => ad = z) ro so lo) args s 0 0 A) (F0 m 77 ls [])) : ∀ (v1 : Int64) (v3 : Int32) (v4 : Int64) (v6 : Int32) (sg : Sg) (lg : Lg), LX12_pack_89 r77 (v1, v3, v4, v6, sg, lg) = some (ro, so, lo) → ∀ (H : Heap) (locs : List Loc) (ls : Array Slot), WS ZM D vwCl T ad sg lg A s.heap H locs → lv_has ls 9 [(0, .ref (ad 0)), (1, .long v1), (3, .int v3), (4, .long v4), (6, .int v6)] → W p l e rmX12_pack s m args below meth c H locs 0 0 (MQ below (QL ZM D vwCl T (tysM T) A (fun z => ad = z) ro so lo) args s 0 0 A) (F0 m 89 ls []) := by
  have key : ∀ z : (Int64 × Int32 × Int64 × Int32 × Sg × Lg), LX12_pack_89 r77 z = some (ro, so, lo) → ∀ (H : Heap) (locs : List Loc) (ls : Array Slot), WS ZM D vwCl T ad z.2.2.2.2.1 z.2.2.2.2.2 A s.heap H locs → lv_has ls 9 [(0, .ref (ad 0)), (1, .long z.1), (3, .int z.2.1), (4, .long z.2.2.1), (6, .int z.2.2.2.1)] → W p l e rmX12_pack s m args below meth c H locs 0 0 (MQ below (QL ZM D vwCl T (tysM T) A (fun z => ad = z) ro so lo) args s 0 0 A) (F0 m 89 ls []) := by
    intro z h
    unfold LX12_pack_89 at h
    exact loop_ind (fun rec z => fX12_pack_89 r77 rec z.1 z.2.1 z.2.2.1 z.2.2.2.1 z.2.2.2.2.1 z.2.2.2.2.2) (y := (ro, so, lo)) (P := fun z => ∀ (H : Heap) (locs : List Loc) (ls : Array Slot), WS ZM D vwCl T ad z.2.2.2.2.1 z.2.2.2.2.2 A s.heap H locs → lv_has ls 9 [(0, .ref (ad 0)), (1, .long z.1), (3, .int z.2.1), (4, .long z.2.2.1), (6, .int z.2.2.2.1)] → W p l e rmX12_pack s m args below meth c H locs 0 0 (MQ below (QL ZM D vwCl T (tysM T) A (fun z => ad = z) ro so lo) args s 0 0 A) (F0 m 89 ls [])) (fun rec hrec z h H locs ls hw hl => tX12_pack_89 C hr77 (fun v1 v3 v4 v6 sg lg => hrec (v1, v3, v4, v6, sg, lg)) z.1 z.2.1 z.2.2.1 z.2.2.2.1 z.2.2.2.2.1 z.2.2.2.2.2 H locs ls hw hl h) z h
  exact fun v1 v3 v4 v6 sg lg => key (v1, v3, v4, v6, sg, lg)
def fX12_pack_77 (r77 : (Int64 × Int32 × Sg × Lg) → Option (Int64 × Sg × Lg)) (v1 : Int64) (v3 : Int32) (sg : Sg) (lg : Lg) : Option (Int64 × Sg × Lg) :=
  (if v3 ≤ 0 then some (v1, sg, lg) else LX12_pack_89 r77 (v1, v3, (1000000000000000 : Int64), (0 : Int32), sg, lg))
set_option maxHeartbeats 4000000 in
set_option maxRecDepth 100000 in
theorem tX12_pack_77 (C : Cx p s m args meth c cX12_pack 9 RX12 wsX12_pack (some .long) D vwCl (tysM T) A false []) {ro : Int64} {so : Sg} {lo : Lg} {r77 : (Int64 × Int32 × Sg × Lg) → Option (Int64 × Sg × Lg)} (hr77 : ∀ (v1 : Int64) (v3 : Int32) (sg : Sg) (lg : Lg), r77 (v1, v3, sg, lg) = some (ro, so, lo) → ∀ (H : Heap) (locs : List Loc) (ls : Array Slot), WS ZM D vwCl T ad sg lg A s.heap H locs → lv_has ls 9 [(0, .ref (ad 0)), (1, .long v1), (3, .int v3)] → W p l e rmX12_pack s m args below meth c H locs 0 0 (MQ below (QL ZM D vwCl T (tysM T) A (fun z => ad = z) ro so lo) args s 0 0 A) (F0 m 77 ls [])) : ∀ (v1 : Int64) (v3 : Int32) (sg : Sg) (lg : Lg), ∀ (H : Heap) (locs : List Loc) (ls : Array Slot), WS ZM D vwCl T ad sg lg A s.heap H locs → lv_has ls 9 [(0, .ref (ad 0)), (1, .long v1), (3, .int v3)] → fX12_pack_77 r77 v1 v3 sg lg = some (ro, so, lo) → W p l e rmX12_pack s m args below meth c H locs 0 0 (MQ below (QL ZM D vwCl T (tysM T) A (fun z => ad = z) ro so lo) args s 0 0 A) (F0 m 77 ls []) := by
  obtain ⟨⟨hx, hb, hml, hown, hts⟩, hr, hlk, hK, hA, hsp⟩ := id C
  intro v1 v3 sg lg H locs ls hw hl h
  unfold fX12_pack_77 at h
  refine lv_iload_n hx hb dX12_pack_77 rfl (lv_at hl 2 rfl) ?_
  refine lv_if_le (tgt := 274) hx hb dX12_pack_78 (by decide) (fun c1 => ?_) (fun c1 => ?_)
  · replace h := ite_t h c1
    refine lv_lload_n hx hb dX12_pack_274 rfl (lv_at hl 1 rfl) ?_
    cases h
    exact r_lret C hw rfl (by decide) (by decide) dX12_pack_275
  · replace h := ite_f h c1
    refine lv_ldc2 hx hb hown (hts _ kX12_pack_c131) dX12_pack_81 ?_
    refine lv_lstore (lv' := [(4, .long (1000000000000000 : Int64)), (0, .ref (ad 0)), (1, .long v1), (3, .int v3)]) hx hb dX12_pack_84 hl (by decide) rfl (fun ls hl => ?_)
    refine lv_iconst (v := (0 : Int32)) hx hb dX12_pack_86 (by decide) ?_
    refine lv_istore (lv' := [(6, .int (0 : Int32)), (4, .long (1000000000000000 : Int64)), (0, .ref (ad 0)), (1, .long v1), (3, .int v3)]) hx hb dX12_pack_87 hl (by decide) rfl (fun ls hl => ?_)
    exact TX12_pack_89 C hr77 v1 v3 (1000000000000000 : Int64) (0 : Int32) sg lg h _ _ _ hw (lv_sub hl [2, 3, 4, 1, 0] rfl)
def LX12_pack_77  : (Int64 × Int32 × Sg × Lg) → Option (Int64 × Sg × Lg) := loop (fun rec z => fX12_pack_77 rec z.1 z.2.1 z.2.2.1 z.2.2.2)
theorem TX12_pack_77 (C : Cx p s m args meth c cX12_pack 9 RX12 wsX12_pack (some .long) D vwCl (tysM T) A false []) {ro : Int64} {so : Sg} {lo : Lg}   : ∀ (v1 : Int64) (v3 : Int32) (sg : Sg) (lg : Lg), LX12_pack_77 (v1, v3, sg, lg) = some (ro, so, lo) → ∀ (H : Heap) (locs : List Loc) (ls : Array Slot), WS ZM D vwCl T ad sg lg A s.heap H locs → lv_has ls 9 [(0, .ref (ad 0)), (1, .long v1), (3, .int v3)] → W p l e rmX12_pack s m args below meth c H locs 0 0 (MQ below (QL ZM D vwCl T (tysM T) A (fun z => ad = z) ro so lo) args s 0 0 A) (F0 m 77 ls []) := by
  have key : ∀ z : (Int64 × Int32 × Sg × Lg), LX12_pack_77  z = some (ro, so, lo) → ∀ (H : Heap) (locs : List Loc) (ls : Array Slot), WS ZM D vwCl T ad z.2.2.1 z.2.2.2 A s.heap H locs → lv_has ls 9 [(0, .ref (ad 0)), (1, .long z.1), (3, .int z.2.1)] → W p l e rmX12_pack s m args below meth c H locs 0 0 (MQ below (QL ZM D vwCl T (tysM T) A (fun z => ad = z) ro so lo) args s 0 0 A) (F0 m 77 ls []) := by
    intro z h
    unfold LX12_pack_77 at h
    exact loop_ind (fun rec z => fX12_pack_77 rec z.1 z.2.1 z.2.2.1 z.2.2.2) (y := (ro, so, lo)) (P := fun z => ∀ (H : Heap) (locs : List Loc) (ls : Array Slot), WS ZM D vwCl T ad z.2.2.1 z.2.2.2 A s.heap H locs → lv_has ls 9 [(0, .ref (ad 0)), (1, .long z.1), (3, .int z.2.1)] → W p l e rmX12_pack s m args below meth c H locs 0 0 (MQ below (QL ZM D vwCl T (tysM T) A (fun z => ad = z) ro so lo) args s 0 0 A) (F0 m 77 ls [])) (fun rec hrec z h H locs ls hw hl => tX12_pack_77 C  (fun v1 v3 sg lg => hrec (v1, v3, sg, lg)) z.1 z.2.1 z.2.2.1 z.2.2.2 H locs ls hw hl h) z h
  exact fun v1 v3 sg lg => key (v1, v3, sg, lg)
def fX12_pack_52 (r2 : (Int32 × Sg × Lg) → Option (Int64 × Sg × Lg)) (r10 : (Int32 × Int32 × Sg × Lg) → Option (Int64 × Sg × Lg)) (v1 : Int32) (v2 : Int32) (w0 : Int32) (w1 : Int32) (sg : Sg) (lg : Lg) : Option (Int64 × Sg × Lg) :=
  gin w1 144 (lt (up2 sg 10 w1.toNatClampNeg w0) (fun sg2 => lt (v2 + (1 : Int32)) (fun x3 => r10 (v1, x3, sg2, lg))))
set_option maxHeartbeats 4000000 in
set_option maxRecDepth 100000 in
theorem tX12_pack_52 (C : Cx p s m args meth c cX12_pack 9 RX12 wsX12_pack (some .long) D vwCl (tysM T) A false []) {ro : Int64} {so : Sg} {lo : Lg} {r2 : (Int32 × Sg × Lg) → Option (Int64 × Sg × Lg)} {r10 : (Int32 × Int32 × Sg × Lg) → Option (Int64 × Sg × Lg)} (hr2 : ∀ (v1 : Int32) (sg : Sg) (lg : Lg), r2 (v1, sg, lg) = some (ro, so, lo) → ∀ (H : Heap) (locs : List Loc) (ls : Array Slot), WS ZM D vwCl T ad sg lg A s.heap H locs → lv_has ls 9 [(0, .ref (ad 0)), (1, .int v1)] → W p l e rmX12_pack s m args below meth c H locs 0 0 (MQ below (QL ZM D vwCl T (tysM T) A (fun z => ad = z) ro so lo) args s 0 0 A) (F0 m 2 ls [])) (hr10 : ∀ (v1 : Int32) (v2 : Int32) (sg : Sg) (lg : Lg), r10 (v1, v2, sg, lg) = some (ro, so, lo) → ∀ (H : Heap) (locs : List Loc) (ls : Array Slot), WS ZM D vwCl T ad sg lg A s.heap H locs → lv_has ls 9 [(0, .ref (ad 0)), (1, .int v1), (2, .int v2)] → W p l e rmX12_pack s m args below meth c H locs 0 0 (MQ below (QL ZM D vwCl T (tysM T) A (fun z => ad = z) ro so lo) args s 0 0 A) (F0 m 10 ls [])) : ∀ (v1 : Int32) (v2 : Int32) (w0 : Int32) (w1 : Int32) (sg : Sg) (lg : Lg), ∀ (H : Heap) (locs : List Loc) (ls : Array Slot), WS ZM D vwCl T ad sg lg A s.heap H locs → lv_has ls 9 [(0, .ref (ad 0)), (1, .int v1), (2, .int v2)] → fX12_pack_52 r2 r10 v1 v2 w0 w1 sg lg = some (ro, so, lo) → W p l e rmX12_pack s m args below meth c H locs 0 0 (MQ below (QL ZM D vwCl T (tysM T) A (fun z => ad = z) ro so lo) args s 0 0 A) (F0 m 52 ls [.int w0, .int w1, .ref (ad 10)]) := by
  obtain ⟨⟨hx, hb, hml, hown, hts⟩, hr, hlk, hK, hA, hsp⟩ := id C
  intro v1 v2 w0 w1 sg lg H locs ls hw hl h
  unfold fX12_pack_52 at h
  have hi1 := (gin_some h).1
  replace h := (gin_some h).2
  refine r_iast ZM_ok hx hb hK hw 10 0 144 (by decide) rfl rfl rfl hi1 dX12_pack_52 (fun H locs sg2 esg2 hw => ?_)
  replace h := lt_get h sg2 esg2
  obtain ⟨x3, ex3⟩ : ∃ z : Int32, z = (v2 + (1 : Int32)) := ⟨_, rfl⟩
  replace h := lt_get h x3 ex3
  refine lv_iinc (v := x3) (lv' := [(2, .int x3), (0, .ref (ad 0)), (1, .int v1)]) hx hb dX12_pack_53 hl (k := 2) rfl (by rw [ex3]; rfl) (by decide) rfl (fun ls hl => ?_)
  refine lv_goto (tgt := 10) hx hb dX12_pack_56 (by decide) ?_
  exact hr10 v1 x3 sg2 lg h _ _ _ hw (lv_sub hl [1, 2, 0] rfl)
def fX12_pack_51 (r2 : (Int32 × Sg × Lg) → Option (Int64 × Sg × Lg)) (r10 : (Int32 × Int32 × Sg × Lg) → Option (Int64 × Sg × Lg)) (v1 : Int32) (v2 : Int32) (w0 : Int32) (sg : Sg) (lg : Lg) : Option (Int64 × Sg × Lg) :=
  fX12_pack_52 r2 r10 v1 v2 (0 : Int32) w0 sg lg
set_option maxHeartbeats 4000000 in
set_option maxRecDepth 100000 in
theorem tX12_pack_51 (C : Cx p s m args meth c cX12_pack 9 RX12 wsX12_pack (some .long) D vwCl (tysM T) A false []) {ro : Int64} {so : Sg} {lo : Lg} {r2 : (Int32 × Sg × Lg) → Option (Int64 × Sg × Lg)} {r10 : (Int32 × Int32 × Sg × Lg) → Option (Int64 × Sg × Lg)} (hr2 : ∀ (v1 : Int32) (sg : Sg) (lg : Lg), r2 (v1, sg, lg) = some (ro, so, lo) → ∀ (H : Heap) (locs : List Loc) (ls : Array Slot), WS ZM D vwCl T ad sg lg A s.heap H locs → lv_has ls 9 [(0, .ref (ad 0)), (1, .int v1)] → W p l e rmX12_pack s m args below meth c H locs 0 0 (MQ below (QL ZM D vwCl T (tysM T) A (fun z => ad = z) ro so lo) args s 0 0 A) (F0 m 2 ls [])) (hr10 : ∀ (v1 : Int32) (v2 : Int32) (sg : Sg) (lg : Lg), r10 (v1, v2, sg, lg) = some (ro, so, lo) → ∀ (H : Heap) (locs : List Loc) (ls : Array Slot), WS ZM D vwCl T ad sg lg A s.heap H locs → lv_has ls 9 [(0, .ref (ad 0)), (1, .int v1), (2, .int v2)] → W p l e rmX12_pack s m args below meth c H locs 0 0 (MQ below (QL ZM D vwCl T (tysM T) A (fun z => ad = z) ro so lo) args s 0 0 A) (F0 m 10 ls [])) : ∀ (v1 : Int32) (v2 : Int32) (w0 : Int32) (sg : Sg) (lg : Lg), ∀ (H : Heap) (locs : List Loc) (ls : Array Slot), WS ZM D vwCl T ad sg lg A s.heap H locs → lv_has ls 9 [(0, .ref (ad 0)), (1, .int v1), (2, .int v2)] → fX12_pack_51 r2 r10 v1 v2 w0 sg lg = some (ro, so, lo) → W p l e rmX12_pack s m args below meth c H locs 0 0 (MQ below (QL ZM D vwCl T (tysM T) A (fun z => ad = z) ro so lo) args s 0 0 A) (F0 m 51 ls [.int w0, .ref (ad 10)]) := by
  obtain ⟨⟨hx, hb, hml, hown, hts⟩, hr, hlk, hK, hA, hsp⟩ := id C
  intro v1 v2 w0 sg lg H locs ls hw hl h
  unfold fX12_pack_51 at h
  refine lv_iconst (v := (0 : Int32)) hx hb dX12_pack_51 (by decide) ?_
  exact tX12_pack_52 C hr2 hr10 v1 v2 (0 : Int32) w0 sg lg _ _ _ hw (lv_sub hl [0, 1, 2] rfl) h
def fX12_pack_10 (r2 : (Int32 × Sg × Lg) → Option (Int64 × Sg × Lg)) (r10 : (Int32 × Int32 × Sg × Lg) → Option (Int64 × Sg × Lg)) (v1 : Int32) (v2 : Int32) (sg : Sg) (lg : Lg) : Option (Int64 × Sg × Lg) :=
  (if (12 : Int32) ≤ v2 then lt (v1 + (1 : Int32)) (fun x2 => r2 (x2, sg, lg)) else bnd3 (fX12_counts v1 sg lg) (fun y3 sg4 lg5 => (if y3 = 0 then fX12_pack_51 r2 r10 v1 v2 (((12 : Int32) * v1) + v2) sg4 lg5 else bnd3 (fX12_counts v2 sg4 lg5) (fun y8 sg9 lg10 => (if y8 = 0 then fX12_pack_51 r2 r10 v1 v2 (((12 : Int32) * v1) + v2) sg9 lg10 else bnd3 (fX12_peckOf v1 v2 sg9 lg10) (fun y13 sg14 lg15 => fX12_pack_52 r2 r10 v1 v2 y13 (((12 : Int32) * v1) + v2) sg14 lg15))))))
set_option maxHeartbeats 4000000 in
set_option maxRecDepth 100000 in
theorem tX12_pack_10 (C : Cx p s m args meth c cX12_pack 9 RX12 wsX12_pack (some .long) D vwCl (tysM T) A false []) {ro : Int64} {so : Sg} {lo : Lg} {r2 : (Int32 × Sg × Lg) → Option (Int64 × Sg × Lg)} {r10 : (Int32 × Int32 × Sg × Lg) → Option (Int64 × Sg × Lg)} (hr2 : ∀ (v1 : Int32) (sg : Sg) (lg : Lg), r2 (v1, sg, lg) = some (ro, so, lo) → ∀ (H : Heap) (locs : List Loc) (ls : Array Slot), WS ZM D vwCl T ad sg lg A s.heap H locs → lv_has ls 9 [(0, .ref (ad 0)), (1, .int v1)] → W p l e rmX12_pack s m args below meth c H locs 0 0 (MQ below (QL ZM D vwCl T (tysM T) A (fun z => ad = z) ro so lo) args s 0 0 A) (F0 m 2 ls [])) (hr10 : ∀ (v1 : Int32) (v2 : Int32) (sg : Sg) (lg : Lg), r10 (v1, v2, sg, lg) = some (ro, so, lo) → ∀ (H : Heap) (locs : List Loc) (ls : Array Slot), WS ZM D vwCl T ad sg lg A s.heap H locs → lv_has ls 9 [(0, .ref (ad 0)), (1, .int v1), (2, .int v2)] → W p l e rmX12_pack s m args below meth c H locs 0 0 (MQ below (QL ZM D vwCl T (tysM T) A (fun z => ad = z) ro so lo) args s 0 0 A) (F0 m 10 ls [])) : ∀ (v1 : Int32) (v2 : Int32) (sg : Sg) (lg : Lg), ∀ (H : Heap) (locs : List Loc) (ls : Array Slot), WS ZM D vwCl T ad sg lg A s.heap H locs → lv_has ls 9 [(0, .ref (ad 0)), (1, .int v1), (2, .int v2)] → fX12_pack_10 r2 r10 v1 v2 sg lg = some (ro, so, lo) → W p l e rmX12_pack s m args below meth c H locs 0 0 (MQ below (QL ZM D vwCl T (tysM T) A (fun z => ad = z) ro so lo) args s 0 0 A) (F0 m 10 ls []) := by
  obtain ⟨⟨hx, hb, hml, hown, hts⟩, hr, hlk, hK, hA, hsp⟩ := id C
  intro v1 v2 sg lg H locs ls hw hl h
  unfold fX12_pack_10 at h
  refine lv_iload_n hx hb dX12_pack_10 rfl (lv_at hl 2 rfl) ?_
  refine lv_bipush (v := (12 : Int32)) hx hb dX12_pack_11 (by decide) ?_
  refine lv_icmp_ge (tgt := 59) hx hb dX12_pack_13 (by decide) (fun c1 => ?_) (fun c1 => ?_)
  · replace h := ite_t h c1
    obtain ⟨x2, ex2⟩ : ∃ z : Int32, z = (v1 + (1 : Int32)) := ⟨_, rfl⟩
    replace h := lt_get h x2 ex2
    refine lv_iinc (v := x2) (lv' := [(1, .int x2), (0, .ref (ad 0)), (2, .int v2)]) hx hb dX12_pack_59 hl (k := 1) rfl (by rw [ex2]; rfl) (by decide) rfl (fun ls hl => ?_)
    refine lv_goto (tgt := 2) hx hb dX12_pack_62 (by decide) ?_
    exact hr2 x2 sg lg h _ _ _ hw (lv_sub hl [1, 0] rfl)
  · replace h := ite_f h c1
    refine lv_aload_n hx hb dX12_pack_16 rfl (lv_at hl 0 rfl) ?_
    refine r_getR (ci := 12) (C := RX12) (U := TX12) (N := 18) hx hb hts kX12_pack_iX12 hown hK hw 0 (by decide) rfl rfl 14 (by decide) 10 rfl (hts _ kX12_pack_f40) (fun _ h9 => h9) dX12_pack_17 ?_
    refine lv_bipush (v := (12 : Int32)) hx hb dX12_pack_20 (by decide) ?_
    refine lv_iload_n hx hb dX12_pack_22 rfl (lv_at hl 1 rfl) ?_
    refine lv_imul hx hb dX12_pack_23 ?_
    refine lv_iload_n hx hb dX12_pack_24 rfl (lv_at hl 2 rfl) ?_
    refine lv_iadd hx hb dX12_pack_25 ?_
    refine lv_aload_n hx hb dX12_pack_26 rfl (lv_at hl 0 rfl) ?_
    refine lv_iload_n hx hb dX12_pack_27 rfl (lv_at hl 1 rfl) ?_
    obtain ⟨y3, sg4, lg5, hq6, h2⟩ := bnd3_some h
    replace h := h2
    clear h2
    refine r_cVi (As := [.int v1]) (rest := [.int (((12 : Int32) * v1) + v2), .ref (ad 10)]) C hw 0 (by decide) (ci := 12) rfl rfl (mX12_counts l D T ad  H.size v1 sg lg hq6) (cwV 1 hts gX12_pack_X12_counts rfl rfl rfl (by decide +kernel) ⟨Nat.le_of_ble_eq_true rfl, Nat.le_of_ble_eq_true rfl⟩) rfl hl.1 rfl (Nat.le_of_ble_eq_true rfl) dX12_pack_28 ⟨Nat.le_of_ble_eq_true rfl, Nat.le_of_ble_eq_true rfl⟩ (fun ad' H locs hp hw => ?_)
    subst hp
    refine W.widen (k := 0) (n := 0) (by decide) (by decide) ?_
    refine lv_if_eq (tgt := 51) hx hb dX12_pack_31 (by decide) (fun c7 => ?_) (fun c7 => ?_)
    · replace h := ite_t h c7
      exact tX12_pack_51 C hr2 hr10 v1 v2 (((12 : Int32) * v1) + v2) sg4 lg5 _ _ _ hw (lv_sub hl [0, 1, 2] rfl) h
    · replace h := ite_f h c7
      refine lv_aload_n hx hb dX12_pack_34 rfl (lv_at hl 0 rfl) ?_
      refine lv_iload_n hx hb dX12_pack_35 rfl (lv_at hl 2 rfl) ?_
      obtain ⟨y8, sg9, lg10, hq11, h2⟩ := bnd3_some h
      replace h := h2
      clear h2
      refine r_cVi (As := [.int v2]) (rest := [.int (((12 : Int32) * v1) + v2), .ref (ad 10)]) C hw 0 (by decide) (ci := 12) rfl rfl (mX12_counts l D T ad  H.size v2 sg4 lg5 hq11) (cwV 1 hts gX12_pack_X12_counts rfl rfl rfl (by decide +kernel) ⟨Nat.le_of_ble_eq_true rfl, Nat.le_of_ble_eq_true rfl⟩) rfl hl.1 rfl (Nat.le_of_ble_eq_true rfl) dX12_pack_36 ⟨Nat.le_of_ble_eq_true rfl, Nat.le_of_ble_eq_true rfl⟩ (fun ad' H locs hp hw => ?_)
      subst hp
      refine W.widen (k := 0) (n := 0) (by decide) (by decide) ?_
      refine lv_if_eq (tgt := 51) hx hb dX12_pack_39 (by decide) (fun c12 => ?_) (fun c12 => ?_)
      · replace h := ite_t h c12
        exact tX12_pack_51 C hr2 hr10 v1 v2 (((12 : Int32) * v1) + v2) sg9 lg10 _ _ _ hw (lv_sub hl [0, 1, 2] rfl) h
      · replace h := ite_f h c12
        refine lv_aload_n hx hb dX12_pack_42 rfl (lv_at hl 0 rfl) ?_
        refine lv_iload_n hx hb dX12_pack_43 rfl (lv_at hl 1 rfl) ?_
        refine lv_iload_n hx hb dX12_pack_44 rfl (lv_at hl 2 rfl) ?_
        obtain ⟨y13, sg14, lg15, hq16, h2⟩ := bnd3_some h
        replace h := h2
        clear h2
        refine r_cVi (As := [.int v1, .int v2]) (rest := [.int (((12 : Int32) * v1) + v2), .ref (ad 10)]) C hw 0 (by decide) (ci := 12) rfl rfl (mX12_peckOf l D T ad  H.size v1 v2 sg9 lg10 hq16) (cwV 2 hts gX12_pack_X12_peckOf rfl rfl rfl (by decide +kernel) ⟨Nat.le_of_ble_eq_true rfl, Nat.le_of_ble_eq_true rfl⟩) rfl hl.1 rfl (Nat.le_of_ble_eq_true rfl) dX12_pack_45 ⟨Nat.le_of_ble_eq_true rfl, Nat.le_of_ble_eq_true rfl⟩ (fun ad' H locs hp hw => ?_)
        subst hp
        refine W.widen (k := 0) (n := 0) (by decide) (by decide) ?_
        refine lv_goto (tgt := 52) hx hb dX12_pack_48 (by decide) ?_
        exact tX12_pack_52 C hr2 hr10 v1 v2 y13 (((12 : Int32) * v1) + v2) sg14 lg15 _ _ _ hw (lv_sub hl [0, 1, 2] rfl) h
def LX12_pack_10 (r2 : (Int32 × Sg × Lg) → Option (Int64 × Sg × Lg)) : (Int32 × Int32 × Sg × Lg) → Option (Int64 × Sg × Lg) := loop (fun rec z => fX12_pack_10 r2 rec z.1 z.2.1 z.2.2.1 z.2.2.2)
theorem TX12_pack_10 (C : Cx p s m args meth c cX12_pack 9 RX12 wsX12_pack (some .long) D vwCl (tysM T) A false []) {ro : Int64} {so : Sg} {lo : Lg} {r2 : (Int32 × Sg × Lg) → Option (Int64 × Sg × Lg)} (hr2 : ∀ (v1 : Int32) (sg : Sg) (lg : Lg), r2 (v1, sg, lg) = some (ro, so, lo) → ∀ (H : Heap) (locs : List Loc) (ls : Array Slot), WS ZM D vwCl T ad sg lg A s.heap H locs → lv_has ls 9 [(0, .ref (ad 0)), (1, .int v1)] → W p l e rmX12_pack s m args below meth c H locs 0 0 (MQ below (QL ZM D vwCl T (tysM T) A (fun z => ad = z) ro so lo) args s 0 0 A) (F0 m 2 ls [])) : ∀ (v1 : Int32) (v2 : Int32) (sg : Sg) (lg : Lg), LX12_pack_10 r2 (v1, v2, sg, lg) = some (ro, so, lo) → ∀ (H : Heap) (locs : List Loc) (ls : Array Slot), WS ZM D vwCl T ad sg lg A s.heap H locs → lv_has ls 9 [(0, .ref (ad 0)), (1, .int v1), (2, .int v2)] → W p l e rmX12_pack s m args below meth c H locs 0 0 (MQ below (QL ZM D vwCl T (tysM T) A (fun z => ad = z) ro so lo) args s 0 0 A) (F0 m 10 ls []) := by
  have key : ∀ z : (Int32 × Int32 × Sg × Lg), LX12_pack_10 r2 z = some (ro, so, lo) → ∀ (H : Heap) (locs : List Loc) (ls : Array Slot), WS ZM D vwCl T ad z.2.2.1 z.2.2.2 A s.heap H locs → lv_has ls 9 [(0, .ref (ad 0)), (1, .int z.1), (2, .int z.2.1)] → W p l e rmX12_pack s m args below meth c H locs 0 0 (MQ below (QL ZM D vwCl T (tysM T) A (fun z => ad = z) ro so lo) args s 0 0 A) (F0 m 10 ls []) := by
    intro z h
    unfold LX12_pack_10 at h
    exact loop_ind (fun rec z => fX12_pack_10 r2 rec z.1 z.2.1 z.2.2.1 z.2.2.2) (y := (ro, so, lo)) (P := fun z => ∀ (H : Heap) (locs : List Loc) (ls : Array Slot), WS ZM D vwCl T ad z.2.2.1 z.2.2.2 A s.heap H locs → lv_has ls 9 [(0, .ref (ad 0)), (1, .int z.1), (2, .int z.2.1)] → W p l e rmX12_pack s m args below meth c H locs 0 0 (MQ below (QL ZM D vwCl T (tysM T) A (fun z => ad = z) ro so lo) args s 0 0 A) (F0 m 10 ls [])) (fun rec hrec z h H locs ls hw hl => tX12_pack_10 C hr2 (fun v1 v2 sg lg => hrec (v1, v2, sg, lg)) z.1 z.2.1 z.2.2.1 z.2.2.2 H locs ls hw hl h) z h
  exact fun v1 v2 sg lg => key (v1, v2, sg, lg)
def fX12_pack_2 (r2 : (Int32 × Sg × Lg) → Option (Int64 × Sg × Lg)) (v1 : Int32) (sg : Sg) (lg : Lg) : Option (Int64 × Sg × Lg) :=
  (if (12 : Int32) ≤ v1 then lt (up2 sg 0 17 (0 : Int32)) (fun sg2 => bnd3 (fX12_ringNext sg2 lg) (fun y3 sg4 lg5 => LX12_pack_77 ((0 : Int64), y3, sg4, lg5))) else LX12_pack_10 r2 (v1, (0 : Int32), sg, lg))
set_option maxHeartbeats 4000000 in
set_option maxRecDepth 100000 in
theorem tX12_pack_2 (C : Cx p s m args meth c cX12_pack 9 RX12 wsX12_pack (some .long) D vwCl (tysM T) A false []) {ro : Int64} {so : Sg} {lo : Lg} {r2 : (Int32 × Sg × Lg) → Option (Int64 × Sg × Lg)} (hr2 : ∀ (v1 : Int32) (sg : Sg) (lg : Lg), r2 (v1, sg, lg) = some (ro, so, lo) → ∀ (H : Heap) (locs : List Loc) (ls : Array Slot), WS ZM D vwCl T ad sg lg A s.heap H locs → lv_has ls 9 [(0, .ref (ad 0)), (1, .int v1)] → W p l e rmX12_pack s m args below meth c H locs 0 0 (MQ below (QL ZM D vwCl T (tysM T) A (fun z => ad = z) ro so lo) args s 0 0 A) (F0 m 2 ls [])) : ∀ (v1 : Int32) (sg : Sg) (lg : Lg), ∀ (H : Heap) (locs : List Loc) (ls : Array Slot), WS ZM D vwCl T ad sg lg A s.heap H locs → lv_has ls 9 [(0, .ref (ad 0)), (1, .int v1)] → fX12_pack_2 r2 v1 sg lg = some (ro, so, lo) → W p l e rmX12_pack s m args below meth c H locs 0 0 (MQ below (QL ZM D vwCl T (tysM T) A (fun z => ad = z) ro so lo) args s 0 0 A) (F0 m 2 ls []) := by
  obtain ⟨⟨hx, hb, hml, hown, hts⟩, hr, hlk, hK, hA, hsp⟩ := id C
  intro v1 sg lg H locs ls hw hl h
  unfold fX12_pack_2 at h
  refine lv_iload_n hx hb dX12_pack_2 rfl (lv_at hl 1 rfl) ?_
  refine lv_bipush (v := (12 : Int32)) hx hb dX12_pack_3 (by decide) ?_
  refine lv_icmp_ge (tgt := 65) hx hb dX12_pack_5 (by decide) (fun c1 => ?_) (fun c1 => ?_)
  · replace h := ite_t h c1
    refine lv_aload_n hx hb dX12_pack_65 rfl (lv_at hl 0 rfl) ?_
    refine lv_iconst (v := (0 : Int32)) hx hb dX12_pack_66 (by decide) ?_
    refine r_putI ZM_ok (ci := 12) (C := RX12) (U := TX12) (N := 18) (ty := .int) hx hb hts kX12_pack_iX12 tyX12 tyX12_ok nmX12 hown hK hw 0 (by decide) rfl rfl 17 (by decide) rfl (hts _ kX12_pack_f212) (fun _ h9 => h9) rfl (by decide +kernel) rfl rfl dX12_pack_67 (fun H locs sg2 esg2 hw => ?_)
    replace h := lt_get h sg2 esg2
    refine lv_lconst (v := (0 : Int64)) hx hb dX12_pack_70 (by decide) ?_
    refine lv_lstore_n (lv' := [(1, .long (0 : Int64)), (0, .ref (ad 0))]) hx hb dX12_pack_71 rfl hl (by decide) rfl (fun ls hl => ?_)
    refine lv_aload_n hx hb dX12_pack_72 rfl (lv_at hl 1 rfl) ?_
    obtain ⟨y3, sg4, lg5, hq6, h2⟩ := bnd3_some h
    replace h := h2
    clear h2
    refine r_cVi (As := []) (rest := []) C hw 0 (by decide) (ci := 12) rfl rfl (mX12_ringNext l D T ad  H.size sg2 lg hq6) (cwV 0 hts gX12_pack_X12_ringNext rfl rfl rfl (by decide +kernel) ⟨Nat.le_of_ble_eq_true rfl, Nat.le_of_ble_eq_true rfl⟩) rfl hl.1 rfl (Nat.le_of_ble_eq_true rfl) dX12_pack_73 ⟨Nat.le_of_ble_eq_true rfl, Nat.le_of_ble_eq_true rfl⟩ (fun ad' H locs hp hw => ?_)
    subst hp
    refine W.widen (k := 0) (n := 0) (by decide) (by decide) ?_
    refine lv_istore_n (lv' := [(3, .int y3), (1, .long (0 : Int64)), (0, .ref (ad 0))]) hx hb dX12_pack_76 rfl hl (by decide) rfl (fun ls hl => ?_)
    exact TX12_pack_77 C (0 : Int64) y3 sg4 lg5 h _ _ _ hw (lv_sub hl [2, 1, 0] rfl)
  · replace h := ite_f h c1
    refine lv_iconst (v := (0 : Int32)) hx hb dX12_pack_8 (by decide) ?_
    refine lv_istore_n (lv' := [(2, .int (0 : Int32)), (0, .ref (ad 0)), (1, .int v1)]) hx hb dX12_pack_9 rfl hl (by decide) rfl (fun ls hl => ?_)
    exact TX12_pack_10 C hr2 v1 (0 : Int32) sg lg h _ _ _ hw (lv_sub hl [1, 2, 0] rfl)
def LX12_pack_2  : (Int32 × Sg × Lg) → Option (Int64 × Sg × Lg) := loop (fun rec z => fX12_pack_2 rec z.1 z.2.1 z.2.2)
theorem TX12_pack_2 (C : Cx p s m args meth c cX12_pack 9 RX12 wsX12_pack (some .long) D vwCl (tysM T) A false []) {ro : Int64} {so : Sg} {lo : Lg}   : ∀ (v1 : Int32) (sg : Sg) (lg : Lg), LX12_pack_2 (v1, sg, lg) = some (ro, so, lo) → ∀ (H : Heap) (locs : List Loc) (ls : Array Slot), WS ZM D vwCl T ad sg lg A s.heap H locs → lv_has ls 9 [(0, .ref (ad 0)), (1, .int v1)] → W p l e rmX12_pack s m args below meth c H locs 0 0 (MQ below (QL ZM D vwCl T (tysM T) A (fun z => ad = z) ro so lo) args s 0 0 A) (F0 m 2 ls []) := by
  have key : ∀ z : (Int32 × Sg × Lg), LX12_pack_2  z = some (ro, so, lo) → ∀ (H : Heap) (locs : List Loc) (ls : Array Slot), WS ZM D vwCl T ad z.2.1 z.2.2 A s.heap H locs → lv_has ls 9 [(0, .ref (ad 0)), (1, .int z.1)] → W p l e rmX12_pack s m args below meth c H locs 0 0 (MQ below (QL ZM D vwCl T (tysM T) A (fun z => ad = z) ro so lo) args s 0 0 A) (F0 m 2 ls []) := by
    intro z h
    unfold LX12_pack_2 at h
    exact loop_ind (fun rec z => fX12_pack_2 rec z.1 z.2.1 z.2.2) (y := (ro, so, lo)) (P := fun z => ∀ (H : Heap) (locs : List Loc) (ls : Array Slot), WS ZM D vwCl T ad z.2.1 z.2.2 A s.heap H locs → lv_has ls 9 [(0, .ref (ad 0)), (1, .int z.1)] → W p l e rmX12_pack s m args below meth c H locs 0 0 (MQ below (QL ZM D vwCl T (tysM T) A (fun z => ad = z) ro so lo) args s 0 0 A) (F0 m 2 ls [])) (fun rec hrec z h H locs ls hw hl => tX12_pack_2 C  (fun v1 sg lg => hrec (v1, sg, lg)) z.1 z.2.1 z.2.2 H locs ls hw hl h) z h
  exact fun v1 sg lg => key (v1, sg, lg)
def fX12_pack  (sg : Sg) (lg : Lg) : Option (Int64 × Sg × Lg) :=
  LX12_pack_2 ((0 : Int32), sg, lg)
set_option maxHeartbeats 4000000 in
set_option maxRecDepth 100000 in
theorem tX12_pack_0 (C : Cx p s m args meth c cX12_pack 9 RX12 wsX12_pack (some .long) D vwCl (tysM T) A false []) {ro : Int64} {so : Sg} {lo : Lg}   : ∀ (sg : Sg) (lg : Lg), ∀ (H : Heap) (locs : List Loc) (ls : Array Slot), WS ZM D vwCl T ad sg lg A s.heap H locs → lv_has ls 9 [(0, .ref (ad 0))] → fX12_pack sg lg = some (ro, so, lo) → W p l e rmX12_pack s m args below meth c H locs 0 0 (MQ below (QL ZM D vwCl T (tysM T) A (fun z => ad = z) ro so lo) args s 0 0 A) (F0 m 0 ls []) := by
  obtain ⟨⟨hx, hb, hml, hown, hts⟩, hr, hlk, hK, hA, hsp⟩ := id C
  intro sg lg H locs ls hw hl h
  unfold fX12_pack at h
  refine lv_iconst (v := (0 : Int32)) hx hb dX12_pack_0 (by decide) ?_
  refine lv_istore_n (lv' := [(1, .int (0 : Int32)), (0, .ref (ad 0))]) hx hb dX12_pack_1 rfl hl (by decide) rfl (fun ls hl => ?_)
  exact TX12_pack_2 C (0 : Int32) sg lg h _ _ _ hw (lv_sub hl [1, 0] rfl)
theorem mX12_pack (l : Launch) (D : va_G) (T : Nat → ClassId) (ad : Nat → Nat)  (sz : Nat)   (sg : Sg) (lg : Lg) {ro : Int64} {so : Sg} {lo : Lg} (h : fX12_pack sg lg = some (ro, so, lo)) : Met l yX12_pack wsX12_pack rmX12_pack (PreZ ZM D vwCl T (tysM T) ad sg lg false [] [.ref (ad 0)] sz) (QL ZM D vwCl T (tysM T) (va_A (zwd ZM T ad sg lg) sz) (fun z => ad = z) ro so lo) 0 0 (va_A (zwd ZM T ad sg lg) sz) :=
  metZ [.ref (ad 0)] sz (by decide) rfl (Nat.le_of_ble_eq_true rfl) (fun p e s m below meth c ls C hw hl => tX12_pack_0 C sg lg _ _ _ hw hl h)
end ZM
