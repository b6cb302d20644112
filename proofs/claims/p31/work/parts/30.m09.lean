section ZM
variable {p : Program} {l : Launch} {e : Env} {s : State} {m : MethodId} {args : Array Value} {below : List Frame} {meth : Method} {c : Code} {D : va_G} {T : Nat → ClassId} {A : Nat → Prop} {ad a : Nat → Nat}
-- PeckYardModel.fault()J
def rmX12_fault : Room := { frames := 6, cells := 0, slots := 0, locals := 137 }
theorem kX12_fault_c112 : Cond.constantLong RX12 112 (-2000000005) ∈ wsX12_fault := by decide +kernel
theorem kX12_fault_c61 : Cond.constantLong RX12 61 (-2000000002) ∈ wsX12_fault := by decide +kernel
def fX12_fault  (sg : Sg) (lg : Lg) : Option (Int64 × Sg × Lg) :=
  bnd3 (fX12_isWhole sg lg) (fun y1 sg2 lg3 => (if y1 = 0 then some ((-2000000002 : Int64), sg2, lg3) else bnd3 (fX12_faulty sg2 lg3) (fun y6 sg7 lg8 => (if 0 ≤ y6 then bnd3 (fX12_faulty sg7 lg8) (fun y11 sg12 lg13 => some (y11.toInt64, sg12, lg13)) else some ((-2000000005 : Int64), sg7, lg8)))))
set_option maxHeartbeats 4000000 in
set_option maxRecDepth 100000 in
theorem tX12_fault_0 (C : Cx p s m args meth c cX12_fault 1 RX12 wsX12_fault (some .long) D vwCl (tysM T) A false []) {ro : Int64} {so : Sg} {lo : Lg}   : ∀ (sg : Sg) (lg : Lg), ∀ (H : Heap) (locs : List Loc) (ls : Array Slot), WS ZM D vwCl T ad sg lg A s.heap H locs → lv_has ls 1 [(0, .ref (ad 0))] → fX12_fault sg lg = some (ro, so, lo) → W p l e rmX12_fault s m args below meth c H locs 0 0 (MQ below (QL ZM D vwCl T (tysM T) A (fun z => ad = z) ro so lo) args s 0 0 A) (F0 m 0 ls []) := by
  obtain ⟨⟨hx, hb, hml, hown, hts⟩, hr, hlk, hK, hA, hsp⟩ := id C
  intro sg lg H locs ls hw hl h
  unfold fX12_fault at h
  refine lv_aload_n hx hb dX12_fault_0 rfl (lv_at hl 0 rfl) ?_
  obtain ⟨y1, sg2, lg3, hq4, h2⟩ := bnd3_some h
  replace h := h2
  clear h2
  refine r_cVi (As := []) (rest := []) C hw 0 (by decide) (ci := 12) rfl rfl (mX12_isWhole l D T ad  H.size sg lg hq4) (cwV 0 hts gX12_fault_X12_isWhole rfl rfl rfl (by decide +kernel) ⟨Nat.le_of_ble_eq_true rfl, Nat.le_of_ble_eq_true rfl⟩) rfl hl.1 rfl (Nat.le_of_ble_eq_true rfl) dX12_fault_1 ⟨Nat.le_of_ble_eq_true rfl, Nat.le_of_ble_eq_true rfl⟩ (fun ad' H locs hp hw => ?_)
  subst hp
  refine W.widen (k := 0) (n := 0) (by decide) (by decide) ?_
  refine lv_if_ne (tgt := 11) hx hb dX12_fault_4 (by decide) (fun c5 => ?_) (fun c5 => ?_)
  · replace h := ite_f h c5
    refine lv_aload_n hx hb dX12_fault_11 rfl (lv_at hl 0 rfl) ?_
    obtain ⟨y6, sg7, lg8, hq9, h2⟩ := bnd3_some h
    replace h := h2
    clear h2
    refine r_cVi (As := []) (rest := []) C hw 0 (by decide) (ci := 12) rfl rfl (mX12_faulty l D T ad  H.size sg2 lg3 hq9) (cwV 0 hts gX12_fault_X12_faulty rfl rfl rfl (by decide +kernel) ⟨Nat.le_of_ble_eq_true rfl, Nat.le_of_ble_eq_true rfl⟩) rfl hl.1 rfl (Nat.le_of_ble_eq_true rfl) dX12_fault_12 ⟨Nat.le_of_ble_eq_true rfl, Nat.le_of_ble_eq_true rfl⟩ (fun ad' H locs hp hw => ?_)
    subst hp
    refine W.widen (k := 0) (n := 0) (by decide) (by decide) ?_
    refine lv_if_ge (tgt := 24) hx hb dX12_fault_15 (by decide) (fun c10 => ?_) (fun c10 => ?_)
    · replace h := ite_t h c10
      refine lv_aload_n hx hb dX12_fault_24 rfl (lv_at hl 0 rfl) ?_
      obtain ⟨y11, sg12, lg13, hq14, h2⟩ := bnd3_some h
      replace h := h2
      clear h2
      refine r_cVi (As := []) (rest := []) C hw 0 (by decide) (ci := 12) rfl rfl (mX12_faulty l D T ad  H.size sg7 lg8 hq14) (cwV 0 hts gX12_fault_X12_faulty rfl rfl rfl (by decide +kernel) ⟨Nat.le_of_ble_eq_true rfl, Nat.le_of_ble_eq_true rfl⟩) rfl hl.1 rfl (Nat.le_of_ble_eq_true rfl) dX12_fault_25 ⟨Nat.le_of_ble_eq_true rfl, Nat.le_of_ble_eq_true rfl⟩ (fun ad' H locs hp hw => ?_)
      subst hp
      refine W.widen (k := 0) (n := 0) (by decide) (by decide) ?_
      refine lv_i2l (v := y11.toInt64) hx hb dX12_fault_28 rfl ?_
      cases h
      exact r_lret C hw rfl (by decide) (by decide) dX12_fault_29
    · replace h := ite_f h c10
      refine lv_ldc2 hx hb hown (hts _ kX12_fault_c112) dX12_fault_18 ?_
      refine lv_goto (tgt := 29) hx hb dX12_fault_21 (by decide) ?_
      cases h
      exact r_lret C hw rfl (by decide) (by decide) dX12_fault_29
  · replace h := ite_t h c5
    refine lv_ldc2 hx hb hown (hts _ kX12_fault_c61) dX12_fault_7 ?_
    cases h
    exact r_lret C hw rfl (by decide) (by decide) dX12_fault_10
theorem mX12_fault (l : Launch) (D : va_G) (T : Nat → ClassId) (ad : Nat → Nat)  (sz : Nat)   (sg : Sg) (lg : Lg) {ro : Int64} {so : Sg} {lo : Lg} (h : fX12_fault sg lg = some (ro, so, lo)) : Met l yX12_fault wsX12_fault rmX12_fault (PreZ ZM D vwCl T (tysM T) ad sg lg false [] [.ref (ad 0)] sz) (QL ZM D vwCl T (tysM T) (va_A (zwd ZM T ad sg lg) sz) (fun z => ad = z) ro so lo) 0 0 (va_A (zwd ZM T ad sg lg) sz) :=
  metZ [.ref (ad 0)] sz (by decide) rfl (Nat.le_of_ble_eq_true rfl) (fun p e s m below meth c ls C hw hl => tX12_fault_0 C sg lg _ _ _ hw hl h)
-- PeckYardModel.betters()Z
def rmX12_betters : Room := { frames := 6, cells := 0, slots := 0, locals := 137 }
theorem kX12_betters_f153 : Cond.fieldLink RX12 153 "PeckYardModel" "inHand" "I" ∈ wsX12_betters := by decide +kernel
theorem kX12_betters_iX12 : ∀ w ∈ u_ws RX12 TX12 18, w ∈ wsX12_betters := by decide +kernel
theorem kX12_betters_f16 : Cond.fieldLink RX12 16 "PeckYardModel" "hand" "[I" ∈ wsX12_betters := by decide +kernel
def fX12_betters_183  (v3 : Int32) (sg : Sg) (lg : Lg) : Option (Int32 × Sg × Lg) :=
  (if v3 < 0 then some ((0 : Int32), sg, lg) else some ((1 : Int32), sg, lg))
set_option maxHeartbeats 4000000 in
set_option maxRecDepth 100000 in
theorem tX12_betters_183 (C : Cx p s m args meth c cX12_betters 12 RX12 wsX12_betters (some .boolean) D vwCl (tysM T) A false []) {ro : Int32} {so : Sg} {lo : Lg}   : ∀ (v3 : Int32) (sg : Sg) (lg : Lg), ∀ (H : Heap) (locs : List Loc) (ls : Array Slot), WS ZM D vwCl T ad sg lg A s.heap H locs → lv_has ls 12 [(3, .int v3)] → fX12_betters_183 v3 sg lg = some (ro, so, lo) → W p l e rmX12_betters s m args below meth c H locs 0 0 (MQ below (QI ZM D vwCl T (tysM T) A (fun z => ad = z) ro so lo) args s 0 0 A) (F0 m 183 ls []) := by
  obtain ⟨⟨hx, hb, hml, hown, hts⟩, hr, hlk, hK, hA, hsp⟩ := id C
  intro v3 sg lg H locs ls hw hl h
  unfold fX12_betters_183 at h
  refine lv_iload_n hx hb dX12_betters_183 rfl (lv_at hl 0 rfl) ?_
  refine lv_if_lt (tgt := 191) hx hb dX12_betters_184 (by decide) (fun c1 => ?_) (fun c1 => ?_)
  · replace h := ite_t h c1
    refine lv_iconst (v := (0 : Int32)) hx hb dX12_betters_191 (by decide) ?_
    cases h
    exact r_zret C hw rfl (by decide) (by decide) (by decide) dX12_betters_192
  · replace h := ite_f h c1
    refine lv_iconst (v := (1 : Int32)) hx hb dX12_betters_187 (by decide) ?_
    refine lv_goto (tgt := 192) hx hb dX12_betters_188 (by decide) ?_
    cases h
    exact r_zret C hw rfl (by decide) (by decide) (by decide) dX12_betters_192
def fX12_betters_160 (r13 : (Int64 × Int32 × Int32 × Int32 × Sg × Lg) → Option (Int32 × Sg × Lg)) (r25 : (Int64 × Int32 × Int32 × Int32 × Int32 × Sg × Lg) → Option (Int32 × Sg × Lg)) (v1 : Int64) (v3 : Int32) (v4 : Int32) (v5 : Int32) (v6 : Int32) (sg : Sg) (lg : Lg) : Option (Int32 × Sg × Lg) :=
  lt (v6 + (1 : Int32)) (fun x1 => r25 (v1, v3, v4, v5, x1, sg, lg))
set_option maxHeartbeats 4000000 in
set_option maxRecDepth 100000 in
theorem tX12_betters_160 (C : Cx p s m args meth c cX12_betters 12 RX12 wsX12_betters (some .boolean) D vwCl (tysM T) A false []) {ro : Int32} {so : Sg} {lo : Lg} {r13 : (Int64 × Int32 × Int32 × Int32 × Sg × Lg) → Option (Int32 × Sg × Lg)} {r25 : (Int64 × Int32 × Int32 × Int32 × Int32 × Sg × Lg) → Option (Int32 × Sg × Lg)} (hr13 : ∀ (v1 : Int64) (v3 : Int32) (v4 : Int32) (v5 : Int32) (sg : Sg) (lg : Lg), r13 (v1, v3, v4, v5, sg, lg) = some (ro, so, lo) → ∀ (H : Heap) (locs : List Loc) (ls : Array Slot), WS ZM D vwCl T ad sg lg A s.heap H locs → lv_has ls 12 [(0, .ref (ad 0)), (1, .long v1), (3, .int v3), (4, .int v4), (5, .int v5)] → W p l e rmX12_betters s m args below meth c H locs 0 0 (MQ below (QI ZM D vwCl T (tysM T) A (fun z => ad = z) ro so lo) args s 0 0 A) (F0 m 13 ls [])) (hr25 : ∀ (v1 : Int64) (v3 : Int32) (v4 : Int32) (v5 : Int32) (v6 : Int32) (sg : Sg) (lg : Lg), r25 (v1, v3, v4, v5, v6, sg, lg) = some (ro, so, lo) → ∀ (H : Heap) (locs : List Loc) (ls : Array Slot), WS ZM D vwCl T ad sg lg A s.heap H locs → lv_has ls 12 [(0, .ref (ad 0)), (1, .long v1), (3, .int v3), (4, .int v4), (5, .int v5), (6, .int v6)] → W p l e rmX12_betters s m args below meth c H locs 0 0 (MQ below (QI ZM D vwCl T (tysM T) A (fun z => ad = z) ro so lo) args s 0 0 A) (F0 m 25 ls [])) : ∀ (v1 : Int64) (v3 : Int32) (v4 : Int32) (v5 : Int32) (v6 : Int32) (sg : Sg) (lg : Lg), ∀ (H : Heap) (locs : List Loc) (ls : Array Slot), WS ZM D vwCl T ad sg lg A s.heap H locs → lv_has ls 12 [(0, .ref (ad 0)), (1, .long v1), (3, .int v3), (4, .int v4), (5, .int v5), (6, .int v6)] → fX12_betters_160 r13 r25 v1 v3 v4 v5 v6 sg lg = some (ro, so, lo) → W p l e rmX12_betters s m args below meth c H locs 0 0 (MQ below (QI ZM D vwCl T (tysM T) A (fun z => ad = z) ro so lo) args s 0 0 A) (F0 m 160 ls []) := by
  obtain ⟨⟨hx, hb, hml, hown, hts⟩, hr, hlk, hK, hA, hsp⟩ := id C
  intro v1 v3 v4 v5 v6 sg lg H locs ls hw hl h
  unfold fX12_betters_160 at h
  obtain ⟨x1, ex1⟩ : ∃ z : Int32, z = (v6 + (1 : Int32)) := ⟨_, rfl⟩
  replace h := lt_get h x1 ex1
  refine lv_iinc (v := x1) (lv' := [(6, .int x1), (0, .ref (ad 0)), (1, .long v1), (3, .int v3), (4, .int v4), (5, .int v5)]) hx hb dX12_betters_160 hl (k := 5) rfl (by rw [ex1]; rfl) (by decide) rfl (fun ls hl => ?_)
  refine lv_goto (tgt := 25) hx hb dX12_betters_163 (by decide) ?_
  exact hr25 v1 v3 v4 v5 x1 sg lg h _ _ _ hw (lv_sub hl [1, 2, 3, 4, 5, 0] rfl)
def fX12_betters_150 (r13 : (Int64 × Int32 × Int32 × Int32 × Sg × Lg) → Option (Int32 × Sg × Lg)) (r25 : (Int64 × Int32 × Int32 × Int32 × Int32 × Sg × Lg) → Option (Int32 × Sg × Lg)) (v5 : Int32) (v6 : Int32) (v8 : Int64) (sg : Sg) (lg : Lg) : Option (Int32 × Sg × Lg) :=
  fX12_betters_160 r13 r25 v8 v5 v6 v5 v6 sg lg
set_option maxHeartbeats 4000000 in
set_option maxRecDepth 100000 in
theorem tX12_betters_150 (C : Cx p s m args meth c cX12_betters 12 RX12 wsX12_betters (some .boolean) D vwCl (tysM T) A false []) {ro : Int32} {so : Sg} {lo : Lg} {r13 : (Int64 × Int32 × Int32 × Int32 × Sg × Lg) → Option (Int32 × Sg × Lg)} {r25 : (Int64 × Int32 × Int32 × Int32 × Int32 × Sg × Lg) → Option (Int32 × Sg × Lg)} (hr13 : ∀ (v1 : Int64) (v3 : Int32) (v4 : Int32) (v5 : Int32) (sg : Sg) (lg : Lg), r13 (v1, v3, v4, v5, sg, lg) = some (ro, so, lo) → ∀ (H : Heap) (locs : List Loc) (ls : Array Slot), WS ZM D vwCl T ad sg lg A s.heap H locs → lv_has ls 12 [(0, .ref (ad 0)), (1, .long v1), (3, .int v3), (4, .int v4), (5, .int v5)] → W p l e rmX12_betters s m args below meth c H locs 0 0 (MQ below (QI ZM D vwCl T (tysM T) A (fun z => ad = z) ro so lo) args s 0 0 A) (F0 m 13 ls [])) (hr25 : ∀ (v1 : Int64) (v3 : Int32) (v4 : Int32) (v5 : Int32) (v6 : Int32) (sg : Sg) (lg : Lg), r25 (v1, v3, v4, v5, v6, sg, lg) = some (ro, so, lo) → ∀ (H : Heap) (locs : List Loc) (ls : Array Slot), WS ZM D vwCl T ad sg lg A s.heap H locs → lv_has ls 12 [(0, .ref (ad 0)), (1, .long v1), (3, .int v3), (4, .int v4), (5, .int v5), (6, .int v6)] → W p l e rmX12_betters s m args below meth c H locs 0 0 (MQ below (QI ZM D vwCl T (tysM T) A (fun z => ad = z) ro so lo) args s 0 0 A) (F0 m 25 ls [])) : ∀ (v5 : Int32) (v6 : Int32) (v8 : Int64) (sg : Sg) (lg : Lg), ∀ (H : Heap) (locs : List Loc) (ls : Array Slot), WS ZM D vwCl T ad sg lg A s.heap H locs → lv_has ls 12 [(0, .ref (ad 0)), (5, .int v5), (6, .int v6), (8, .long v8)] → fX12_betters_150 r13 r25 v5 v6 v8 sg lg = some (ro, so, lo) → W p l e rmX12_betters s m args below meth c H locs 0 0 (MQ below (QI ZM D vwCl T (tysM T) A (fun z => ad = z) ro so lo) args s 0 0 A) (F0 m 150 ls []) := by
  obtain ⟨⟨hx, hb, hml, hown, hts⟩, hr, hlk, hK, hA, hsp⟩ := id C
  intro v5 v6 v8 sg lg H locs ls hw hl h
  unfold fX12_betters_150 at h
  refine lv_lload hx hb dX12_betters_150 (lv_at hl 3 rfl) ?_
  refine lv_lstore_n (lv' := [(1, .long v8), (0, .ref (ad 0)), (5, .int v5), (6, .int v6), (8, .long v8)]) hx hb dX12_betters_152 rfl hl (by decide) rfl (fun ls hl => ?_)
  refine lv_iload hx hb dX12_betters_153 (lv_at hl 2 rfl) ?_
  refine lv_istore_n (lv' := [(3, .int v5), (1, .long v8), (0, .ref (ad 0)), (5, .int v5), (6, .int v6), (8, .long v8)]) hx hb dX12_betters_155 rfl hl (by decide) rfl (fun ls hl => ?_)
  refine lv_iload hx hb dX12_betters_156 (lv_at hl 4 rfl) ?_
  refine lv_istore (lv' := [(4, .int v6), (3, .int v5), (1, .long v8), (0, .ref (ad 0)), (5, .int v5), (6, .int v6), (8, .long v8)]) hx hb dX12_betters_158 hl (by decide) rfl (fun ls hl => ?_)
  exact tX12_betters_160 C hr13 hr25 v8 v5 v6 v5 v6 sg lg _ _ _ hw (lv_sub hl [3, 2, 1, 0, 4, 5] rfl) h
def fX12_betters_124 (r13 : (Int64 × Int32 × Int32 × Int32 × Sg × Lg) → Option (Int32 × Sg × Lg)) (r25 : (Int64 × Int32 × Int32 × Int32 × Int32 × Sg × Lg) → Option (Int32 × Sg × Lg)) (v1 : Int64) (v3 : Int32) (v4 : Int32) (v5 : Int32) (v6 : Int32) (v8 : Int64) (v10 : Int32) (w0 : Int32) (sg : Sg) (lg : Lg) : Option (Int32 × Sg × Lg) :=
  (if v5 = v6 then fX12_betters_160 r13 r25 v1 v3 v4 v5 v6 sg lg else (if v10 = 0 then fX12_betters_160 r13 r25 v1 v3 v4 v5 v6 sg lg else (if v8 < v1 then fX12_betters_150 r13 r25 v5 v6 v8 sg lg else (if w0 = 0 then fX12_betters_160 r13 r25 v1 v3 v4 v5 v6 sg lg else fX12_betters_150 r13 r25 v5 v6 v8 sg lg))))
set_option maxHeartbeats 4000000 in
set_option maxRecDepth 100000 in
theorem tX12_betters_124 (C : Cx p s m args meth c cX12_betters 12 RX12 wsX12_betters (some .boolean) D vwCl (tysM T) A false []) {ro : Int32} {so : Sg} {lo : Lg} {r13 : (Int64 × Int32 × Int32 × Int32 × Sg × Lg) → Option (Int32 × Sg × Lg)} {r25 : (Int64 × Int32 × Int32 × Int32 × Int32 × Sg × Lg) → Option (Int32 × Sg × Lg)} (hr13 : ∀ (v1 : Int64) (v3 : Int32) (v4 : Int32) (v5 : Int32) (sg : Sg) (lg : Lg), r13 (v1, v3, v4, v5, sg, lg) = some (ro, so, lo) → ∀ (H : Heap) (locs : List Loc) (ls : Array Slot), WS ZM D vwCl T ad sg lg A s.heap H locs → lv_has ls 12 [(0, .ref (ad 0)), (1, .long v1), (3, .int v3), (4, .int v4), (5, .int v5)] → W p l e rmX12_betters s m args below meth c H locs 0 0 (MQ below (QI ZM D vwCl T (tysM T) A (fun z => ad = z) ro so lo) args s 0 0 A) (F0 m 13 ls [])) (hr25 : ∀ (v1 : Int64) (v3 : Int32) (v4 : Int32) (v5 : Int32) (v6 : Int32) (sg : Sg) (lg : Lg), r25 (v1, v3, v4, v5, v6, sg, lg) = some (ro, so, lo) → ∀ (H : Heap) (locs : List Loc) (ls : Array Slot), WS ZM D vwCl T ad sg lg A s.heap H locs → lv_has ls 12 [(0, .ref (ad 0)), (1, .long v1), (3, .int v3), (4, .int v4), (5, .int v5), (6, .int v6)] → W p l e rmX12_betters s m args below meth c H locs 0 0 (MQ below (QI ZM D vwCl T (tysM T) A (fun z => ad = z) ro so lo) args s 0 0 A) (F0 m 25 ls [])) : ∀ (v1 : Int64) (v3 : Int32) (v4 : Int32) (v5 : Int32) (v6 : Int32) (v8 : Int64) (v10 : Int32) (w0 : Int32) (sg : Sg) (lg : Lg), ∀ (H : Heap) (locs : List Loc) (ls : Array Slot), WS ZM D vwCl T ad sg lg A s.heap H locs → lv_has ls 12 [(0, .ref (ad 0)), (1, .long v1), (3, .int v3), (4, .int v4), (5, .int v5), (6, .int v6), (8, .long v8), (10, .int v10)] → fX12_betters_124 r13 r25 v1 v3 v4 v5 v6 v8 v10 w0 sg lg = some (ro, so, lo) → W p l e rmX12_betters s m args below meth c H locs 0 0 (MQ below (QI ZM D vwCl T (tysM T) A (fun z => ad = z) ro so lo) args s 0 0 A) (F0 m 124 ls [.int w0]) := by
  obtain ⟨⟨hx, hb, hml, hown, hts⟩, hr, hlk, hK, hA, hsp⟩ := id C
  intro v1 v3 v4 v5 v6 v8 v10 w0 sg lg H locs ls hw hl h
  unfold fX12_betters_124 at h
  refine lv_istore (lv' := [(11, .int w0), (0, .ref (ad 0)), (1, .long v1), (3, .int v3), (4, .int v4), (5, .int v5), (6, .int v6), (8, .long v8), (10, .int v10)]) hx hb dX12_betters_124 hl (by decide) rfl (fun ls hl => ?_)
  refine lv_iload hx hb dX12_betters_126 (lv_at hl 5 rfl) ?_
  refine lv_iload hx hb dX12_betters_128 (lv_at hl 6 rfl) ?_
  refine lv_icmp_eq (tgt := 160) hx hb dX12_betters_130 (by decide) (fun c1 => ?_) (fun c1 => ?_)
  · replace h := ite_t h c1
    exact tX12_betters_160 C hr13 hr25 v1 v3 v4 v5 v6 sg lg _ _ _ hw (lv_sub hl [1, 2, 3, 4, 5, 6] rfl) h
  · replace h := ite_f h c1
    refine lv_iload hx hb dX12_betters_133 (lv_at hl 8 rfl) ?_
    refine lv_if_eq (tgt := 160) hx hb dX12_betters_135 (by decide) (fun c2 => ?_) (fun c2 => ?_)
    · replace h := ite_t h c2
      exact tX12_betters_160 C hr13 hr25 v1 v3 v4 v5 v6 sg lg _ _ _ hw (lv_sub hl [1, 2, 3, 4, 5, 6] rfl) h
    · replace h := ite_f h c2
      refine lv_lload hx hb dX12_betters_138 (lv_at hl 7 rfl) ?_
      refine lv_lload_n hx hb dX12_betters_140 rfl (lv_at hl 2 rfl) ?_
      refine W.lcmp hx hb dX12_betters_141 ?_
      refine lv_if_lt (tgt := 150) hx hb dX12_betters_142 (by decide) (fun c3 => ?_) (fun c3 => ?_)
      · replace h := ite_t h ((lg_cmp_lt _ _).mp c3)
        exact tX12_betters_150 C hr13 hr25 v5 v6 v8 sg lg _ _ _ hw (lv_sub hl [1, 5, 6, 7] rfl) h
      · replace h := ite_f h (fun z => c3 ((lg_cmp_lt _ _).mpr z))
        refine lv_iload hx hb dX12_betters_145 (lv_at hl 0 rfl) ?_
        refine lv_if_eq (tgt := 160) hx hb dX12_betters_147 (by decide) (fun c4 => ?_) (fun c4 => ?_)
        · replace h := ite_t h c4
          exact tX12_betters_160 C hr13 hr25 v1 v3 v4 v5 v6 sg lg _ _ _ hw (lv_sub hl [1, 2, 3, 4, 5, 6] rfl) h
        · replace h := ite_f h c4
          exact tX12_betters_150 C hr13 hr25 v5 v6 v8 sg lg _ _ _ hw (lv_sub hl [1, 5, 6, 7] rfl) h
def fX12_betters_123 (r13 : (Int64 × Int32 × Int32 × Int32 × Sg × Lg) → Option (Int32 × Sg × Lg)) (r25 : (Int64 × Int32 × Int32 × Int32 × Int32 × Sg × Lg) → Option (Int32 × Sg × Lg)) (v1 : Int64) (v3 : Int32) (v4 : Int32) (v5 : Int32) (v6 : Int32) (v8 : Int64) (v10 : Int32) (sg : Sg) (lg : Lg) : Option (Int32 × Sg × Lg) :=
  fX12_betters_124 r13 r25 v1 v3 v4 v5 v6 v8 v10 (0 : Int32) sg lg
set_option maxHeartbeats 4000000 in
set_option maxRecDepth 100000 in
theorem tX12_betters_123 (C : Cx p s m args meth c cX12_betters 12 RX12 wsX12_betters (some .boolean) D vwCl (tysM T) A false []) {ro : Int32} {so : Sg} {lo : Lg} {r13 : (Int64 × Int32 × Int32 × Int32 × Sg × Lg) → Option (Int32 × Sg × Lg)} {r25 : (Int64 × Int32 × Int32 × Int32 × Int32 × Sg × Lg) → Option (Int32 × Sg × Lg)} (hr13 : ∀ (v1 : Int64) (v3 : Int32) (v4 : Int32) (v5 : Int32) (sg : Sg) (lg : Lg), r13 (v1, v3, v4, v5, sg, lg) = some (ro, so, lo) → ∀ (H : Heap) (locs : List Loc) (ls : Array Slot), WS ZM D vwCl T ad sg lg A s.heap H locs → lv_has ls 12 [(0, .ref (ad 0)), (1, .long v1), (3, .int v3), (4, .int v4), (5, .int v5)] → W p l e rmX12_betters s m args below meth c H locs 0 0 (MQ below (QI ZM D vwCl T (tysM T) A (fun z => ad = z) ro so lo) args s 0 0 A) (F0 m 13 ls [])) (hr25 : ∀ (v1 : Int64) (v3 : Int32) (v4 : Int32) (v5 : Int32) (v6 : Int32) (sg : Sg) (lg : Lg), r25 (v1, v3, v4, v5, v6, sg, lg) = some (ro, so, lo) → ∀ (H : Heap) (locs : List Loc) (ls : Array Slot), WS ZM D vwCl T ad sg lg A s.heap H locs → lv_has ls 12 [(0, .ref (ad 0)), (1, .long v1), (3, .int v3), (4, .int v4), (5, .int v5), (6, .int v6)] → W p l e rmX12_betters s m args below meth c H locs 0 0 (MQ below (QI ZM D vwCl T (tysM T) A (fun z => ad = z) ro so lo) args s 0 0 A) (F0 m 25 ls [])) : ∀ (v1 : Int64) (v3 : Int32) (v4 : Int32) (v5 : Int32) (v6 : Int32) (v8 : Int64) (v10 : Int32) (sg : Sg) (lg : Lg), ∀ (H : Heap) (locs : List Loc) (ls : Array Slot), WS ZM D vwCl T ad sg lg A s.heap H locs → lv_has ls 12 [(0, .ref (ad 0)), (1, .long v1), (3, .int v3), (4, .int v4), (5, .int v5), (6, .int v6), (8, .long v8), (10, .int v10)] → fX12_betters_123 r13 r25 v1 v3 v4 v5 v6 v8 v10 sg lg = some (ro, so, lo) → W p l e rmX12_betters s m args below meth c H locs 0 0 (MQ below (QI ZM D vwCl T (tysM T) A (fun z => ad = z) ro so lo) args s 0 0 A) (F0 m 123 ls []) := by
  obtain ⟨⟨hx, hb, hml, hown, hts⟩, hr, hlk, hK, hA, hsp⟩ := id C
  intro v1 v3 v4 v5 v6 v8 v10 sg lg H locs ls hw hl h
  unfold fX12_betters_123 at h
  refine lv_iconst (v := (0 : Int32)) hx hb dX12_betters_123 (by decide) ?_
  exact tX12_betters_124 C hr13 hr25 v1 v3 v4 v5 v6 v8 v10 (0 : Int32) sg lg _ _ _ hw (lv_sub hl [0, 1, 2, 3, 4, 5, 6, 7] rfl) h
def fX12_betters_119 (r13 : (Int64 × Int32 × Int32 × Int32 × Sg × Lg) → Option (Int32 × Sg × Lg)) (r25 : (Int64 × Int32 × Int32 × Int32 × Int32 × Sg × Lg) → Option (Int32 × Sg × Lg)) (v1 : Int64) (v3 : Int32) (v4 : Int32) (v5 : Int32) (v6 : Int32) (v8 : Int64) (v10 : Int32) (sg : Sg) (lg : Lg) : Option (Int32 × Sg × Lg) :=
  fX12_betters_124 r13 r25 v1 v3 v4 v5 v6 v8 v10 (1 : Int32) sg lg
set_option maxHeartbeats 4000000 in
set_option maxRecDepth 100000 in
theorem tX12_betters_119 (C : Cx p s m args meth c cX12_betters 12 RX12 wsX12_betters (some .boolean) D vwCl (tysM T) A false []) {ro : Int32} {so : Sg} {lo : Lg} {r13 : (Int64 × Int32 × Int32 × Int32 × Sg × Lg) → Option (Int32 × Sg × Lg)} {r25 : (Int64 × Int32 × Int32 × Int32 × Int32 × Sg × Lg) → Option (Int32 × Sg × Lg)} (hr13 : ∀ (v1 : Int64) (v3 : Int32) (v4 : Int32) (v5 : Int32) (sg : Sg) (lg : Lg), r13 (v1, v3, v4, v5, sg, lg) = some (ro, so, lo) → ∀ (H : Heap) (locs : List Loc) (ls : Array Slot), WS ZM D vwCl T ad sg lg A s.heap H locs → lv_has ls 12 [(0, .ref (ad 0)), (1, .long v1), (3, .int v3), (4, .int v4), (5, .int v5)] → W p l e rmX12_betters s m args below meth c H locs 0 0 (MQ below (QI ZM D vwCl T (tysM T) A (fun z => ad = z) ro so lo) args s 0 0 A) (F0 m 13 ls [])) (hr25 : ∀ (v1 : Int64) (v3 : Int32) (v4 : Int32) (v5 : Int32) (v6 : Int32) (sg : Sg) (lg : Lg), r25 (v1, v3, v4, v5, v6, sg, lg) = some (ro, so, lo) → ∀ (H : Heap) (locs : List Loc) (ls : Array Slot), WS ZM D vwCl T ad sg lg A s.heap H locs → lv_has ls 12 [(0, .ref (ad 0)), (1, .long v1), (3, .int v3), (4, .int v4), (5, .int v5), (6, .int v6)] → W p l e rmX12_betters s m args below meth c H locs 0 0 (MQ below (QI ZM D vwCl T (tysM T) A (fun z => ad = z) ro so lo) args s 0 0 A) (F0 m 25 ls [])) : ∀ (v1 : Int64) (v3 : Int32) (v4 : Int32) (v5 : Int32) (v6 : Int32) (v8 : Int64) (v10 : Int32) (sg : Sg) (lg : Lg), ∀ (H : Heap) (locs : List Loc) (ls : Array Slot), WS ZM D vwCl T ad sg lg A s.heap H locs → lv_has ls 12 [(0, .ref (ad 0)), (1, .long v1), (3, .int v3), (4, .int v4), (5, .int v5), (6, .int v6), (8, .long v8), (10, .int v10)] → fX12_betters_119 r13 r25 v1 v3 v4 v5 v6 v8 v10 sg lg = some (ro, so, lo) → W p l e rmX12_betters s m args below meth c H locs 0 0 (MQ below (QI ZM D vwCl T (tysM T) A (fun z => ad = z) ro so lo) args s 0 0 A) (F0 m 119 ls []) := by
  obtain ⟨⟨hx, hb, hml, hown, hts⟩, hr, hlk, hK, hA, hsp⟩ := id C
  intro v1 v3 v4 v5 v6 v8 v10 sg lg H locs ls hw hl h
  unfold fX12_betters_119 at h
  refine lv_iconst (v := (1 : Int32)) hx hb dX12_betters_119 (by decide) ?_
  refine lv_goto (tgt := 124) hx hb dX12_betters_120 (by decide) ?_
  exact tX12_betters_124 C hr13 hr25 v1 v3 v4 v5 v6 v8 v10 (1 : Int32) sg lg _ _ _ hw (lv_sub hl [0, 1, 2, 3, 4, 5, 6, 7] rfl) h
def fX12_betters_69 (r13 : (Int64 × Int32 × Int32 × Int32 × Sg × Lg) → Option (Int32 × Sg × Lg)) (r25 : (Int64 × Int32 × Int32 × Int32 × Int32 × Sg × Lg) → Option (Int32 × Sg × Lg)) (v1 : Int64) (v3 : Int32) (v4 : Int32) (v5 : Int32) (v6 : Int32) (v7 : Int32) (v8 : Int64) (w0 : Int32) (sg : Sg) (lg : Lg) : Option (Int32 × Sg × Lg) :=
  bnd2 (fX12_shift v6 v5 sg lg) (fun sg1 lg2 => (if v3 < 0 then fX12_betters_123 r13 r25 v1 v3 v4 v5 v6 v8 w0 sg1 lg2 else (if v8 = v1 then gin v3 12 ((if v7 < (sg1 3 v3.toNatClampNeg) then fX12_betters_119 r13 r25 v1 v3 v4 v5 v6 v8 w0 sg1 lg2 else gin v3 12 ((if v7 = (sg1 3 v3.toNatClampNeg) then (if v4 ≤ v6 then fX12_betters_123 r13 r25 v1 v3 v4 v5 v6 v8 w0 sg1 lg2 else fX12_betters_119 r13 r25 v1 v3 v4 v5 v6 v8 w0 sg1 lg2) else fX12_betters_123 r13 r25 v1 v3 v4 v5 v6 v8 w0 sg1 lg2)))) else fX12_betters_123 r13 r25 v1 v3 v4 v5 v6 v8 w0 sg1 lg2)))
set_option maxHeartbeats 4000000 in
set_option maxRecDepth 100000 in
theorem tX12_betters_69 (C : Cx p s m args meth c cX12_betters 12 RX12 wsX12_betters (some .boolean) D vwCl (tysM T) A false []) {ro : Int32} {so : Sg} {lo : Lg} {r13 : (Int64 × Int32 × Int32 × Int32 × Sg × Lg) → Option (Int32 × Sg × Lg)} {r25 : (Int64 × Int32 × Int32 × Int32 × Int32 × Sg × Lg) → Option (Int32 × Sg × Lg)} (hr13 : ∀ (v1 : Int64) (v3 : Int32) (v4 : Int32) (v5 : Int32) (sg : Sg) (lg : Lg), r13 (v1, v3, v4, v5, sg, lg) = some (ro, so, lo) → ∀ (H : Heap) (locs : List Loc) (ls : Array Slot), WS ZM D vwCl T ad sg lg A s.heap H locs → lv_has ls 12 [(0, .ref (ad 0)), (1, .long v1), (3, .int v3), (4, .int v4), (5, .int v5)] → W p l e rmX12_betters s m args below meth c H locs 0 0 (MQ below (QI ZM D vwCl T (tysM T) A (fun z => ad = z) ro so lo) args s 0 0 A) (F0 m 13 ls [])) (hr25 : ∀ (v1 : Int64) (v3 : Int32) (v4 : Int32) (v5 : Int32) (v6 : Int32) (sg : Sg) (lg : Lg), r25 (v1, v3, v4, v5, v6, sg, lg) = some (ro, so, lo) → ∀ (H : Heap) (locs : List Loc) (ls : Array Slot), WS ZM D vwCl T ad sg lg A s.heap H locs → lv_has ls 12 [(0, .ref (ad 0)), (1, .long v1), (3, .int v3), (4, .int v4), (5, .int v5), (6, .int v6)] → W p l e rmX12_betters s m args below meth c H locs 0 0 (MQ below (QI ZM D vwCl T (tysM T) A (fun z => ad = z) ro so lo) args s 0 0 A) (F0 m 25 ls [])) : ∀ (v1 : Int64) (v3 : Int32) (v4 : Int32) (v5 : Int32) (v6 : Int32) (v7 : Int32) (v8 : Int64) (w0 : Int32) (sg : Sg) (lg : Lg), ∀ (H : Heap) (locs : List Loc) (ls : Array Slot), WS ZM D vwCl T ad sg lg A s.heap H locs → lv_has ls 12 [(0, .ref (ad 0)), (1, .long v1), (3, .int v3), (4, .int v4), (5, .int v5), (6, .int v6), (7, .int v7), (8, .long v8)] → fX12_betters_69 r13 r25 v1 v3 v4 v5 v6 v7 v8 w0 sg lg = some (ro, so, lo) → W p l e rmX12_betters s m args below meth c H locs 0 0 (MQ below (QI ZM D vwCl T (tysM T) A (fun z => ad = z) ro so lo) args s 0 0 A) (F0 m 69 ls [.int w0]) := by
  obtain ⟨⟨hx, hb, hml, hown, hts⟩, hr, hlk, hK, hA, hsp⟩ := id C
  intro v1 v3 v4 v5 v6 v7 v8 w0 sg lg H locs ls hw hl h
  unfold fX12_betters_69 at h
  refine lv_istore (lv' := [(10, .int w0), (0, .ref (ad 0)), (1, .long v1), (3, .int v3), (4, .int v4), (5, .int v5), (6, .int v6), (7, .int v7), (8, .long v8)]) hx hb dX12_betters_69 hl (by decide) rfl (fun ls hl => ?_)
  refine lv_aload_n hx hb dX12_betters_71 rfl (lv_at hl 1 rfl) ?_
  refine lv_iload hx hb dX12_betters_72 (lv_at hl 6 rfl) ?_
  refine lv_iload hx hb dX12_betters_74 (lv_at hl 5 rfl) ?_
  obtain ⟨sg1, lg2, hq3, h2⟩ := bnd2_some h
  replace h := h2
  clear h2
  refine r_cVv (As := [.int v6, .int v5]) (rest := []) C hw 0 (by decide) (ci := 12) rfl rfl (mX12_shift l D T ad  H.size v6 v5 sg lg hq3) (cwV 2 hts gX12_betters_X12_shift rfl rfl rfl (by decide +kernel) ⟨Nat.le_of_ble_eq_true rfl, Nat.le_of_ble_eq_true rfl⟩) rfl hl.1 rfl (Nat.le_of_ble_eq_true rfl) dX12_betters_76 ⟨Nat.le_of_ble_eq_true rfl, Nat.le_of_ble_eq_true rfl⟩ (fun ad' H locs hp hw => ?_)
  subst hp
  refine W.widen (k := 0) (n := 0) (by decide) (by decide) ?_
  refine lv_iload_n hx hb dX12_betters_79 rfl (lv_at hl 3 rfl) ?_
  refine lv_if_lt (tgt := 123) hx hb dX12_betters_80 (by decide) (fun c4 => ?_) (fun c4 => ?_)
  · replace h := ite_t h c4
    exact tX12_betters_123 C hr13 hr25 v1 v3 v4 v5 v6 v8 w0 sg1 lg2 _ _ _ hw (lv_sub hl [1, 2, 3, 4, 5, 6, 8, 0] rfl) h
  · replace h := ite_f h c4
    refine lv_lload hx hb dX12_betters_83 (lv_at hl 8 rfl) ?_
    refine lv_lload_n hx hb dX12_betters_85 rfl (lv_at hl 2 rfl) ?_
    refine W.lcmp hx hb dX12_betters_86 ?_
    refine lv_if_ne (tgt := 123) hx hb dX12_betters_87 (by decide) (fun c5 => ?_) (fun c5 => ?_)
    · replace h := ite_f h (fun z => c5 ((lg_cmp_eq _ _).mpr z))
      exact tX12_betters_123 C hr13 hr25 v1 v3 v4 v5 v6 v8 w0 sg1 lg2 _ _ _ hw (lv_sub hl [1, 2, 3, 4, 5, 6, 8, 0] rfl) h
    · replace h := ite_t h ((lg_cmp_eq _ _).mp c5)
      refine lv_iload hx hb dX12_betters_90 (lv_at hl 7 rfl) ?_
      refine lv_aload_n hx hb dX12_betters_92 rfl (lv_at hl 1 rfl) ?_
      refine r_getR (ci := 12) (C := RX12) (U := TX12) (N := 18) hx hb hts kX12_betters_iX12 hown hK hw 0 (by decide) rfl rfl 3 (by decide) 3 rfl (hts _ kX12_betters_f16) (fun _ h9 => h9) dX12_betters_93 ?_
      refine lv_iload_n hx hb dX12_betters_96 rfl (lv_at hl 3 rfl) ?_
      have hi6 := (gin_some h).1
      replace h := (gin_some h).2
      refine r_iald hx hb hK hw 3 0 12 (by decide) rfl rfl rfl hi6 dX12_betters_97 ?_
      refine lv_icmp_lt (tgt := 119) hx hb dX12_betters_98 (by decide) (fun c7 => ?_) (fun c7 => ?_)
      · replace h := ite_t h c7
        exact tX12_betters_119 C hr13 hr25 v1 v3 v4 v5 v6 v8 w0 sg1 lg2 _ _ _ hw (lv_sub hl [1, 2, 3, 4, 5, 6, 8, 0] rfl) h
      · replace h := ite_f h c7
        refine lv_iload hx hb dX12_betters_101 (lv_at hl 7 rfl) ?_
        refine lv_aload_n hx hb dX12_betters_103 rfl (lv_at hl 1 rfl) ?_
        refine r_getR (ci := 12) (C := RX12) (U := TX12) (N := 18) hx hb hts kX12_betters_iX12 hown hK hw 0 (by decide) rfl rfl 3 (by decide) 3 rfl (hts _ kX12_betters_f16) (fun _ h9 => h9) dX12_betters_104 ?_
        refine lv_iload_n hx hb dX12_betters_107 rfl (lv_at hl 3 rfl) ?_
        have hi8 := (gin_some h).1
        replace h := (gin_some h).2
        refine r_iald hx hb hK hw 3 0 12 (by decide) rfl rfl rfl hi8 dX12_betters_108 ?_
        refine lv_icmp_ne (tgt := 123) hx hb dX12_betters_109 (by decide) (fun c9 => ?_) (fun c9 => ?_)
        · replace h := ite_f h c9
          exact tX12_betters_123 C hr13 hr25 v1 v3 v4 v5 v6 v8 w0 sg1 lg2 _ _ _ hw (lv_sub hl [1, 2, 3, 4, 5, 6, 8, 0] rfl) h
        · replace h := ite_t h c9
          refine lv_iload hx hb dX12_betters_112 (lv_at hl 6 rfl) ?_
          refine lv_iload hx hb dX12_betters_114 (lv_at hl 4 rfl) ?_
          refine lv_icmp_ge (tgt := 123) hx hb dX12_betters_116 (by decide) (fun c10 => ?_) (fun c10 => ?_)
          · replace h := ite_t h c10
            exact tX12_betters_123 C hr13 hr25 v1 v3 v4 v5 v6 v8 w0 sg1 lg2 _ _ _ hw (lv_sub hl [1, 2, 3, 4, 5, 6, 8, 0] rfl) h
          · replace h := ite_f h c10
            exact tX12_betters_119 C hr13 hr25 v1 v3 v4 v5 v6 v8 w0 sg1 lg2 _ _ _ hw (lv_sub hl [1, 2, 3, 4, 5, 6, 8, 0] rfl) h
def fX12_betters_25 (r13 : (Int64 × Int32 × Int32 × Int32 × Sg × Lg) → Option (Int32 × Sg × Lg)) (r25 : (Int64 × Int32 × Int32 × Int32 × Int32 × Sg × Lg) → Option (Int32 × Sg × Lg)) (v1 : Int64) (v3 : Int32) (v4 : Int32) (v5 : Int32) (v6 : Int32) (sg : Sg) (lg : Lg) : Option (Int32 × Sg × Lg) :=
  (if (sg 0 4) ≤ v6 then lt (v5 + (1 : Int32)) (fun x2 => r13 (v1, v3, v4, x2, sg, lg)) else gin v5 12 (lt (sg 3 v5.toNatClampNeg) (fun x4 => bnd2 (fX12_shift v5 v6 sg lg) (fun sg5 lg6 => bnd3 (fX12_weightNow sg5 lg6) (fun y8 sg9 lg10 => bnd3 (fX12_faulty sg9 lg10) (fun y12 sg13 lg14 => (if 0 ≤ y12 then fX12_betters_69 r13 r25 v1 v3 v4 v5 v6 x4 y8 (0 : Int32) sg13 lg14 else fX12_betters_69 r13 r25 v1 v3 v4 v5 v6 x4 y8 (1 : Int32) sg13 lg14)))))))
set_option maxHeartbeats 4000000 in
set_option maxRecDepth 100000 in
theorem tX12_betters_25 (C : Cx p s m args meth c cX12_betters 12 RX12 wsX12_betters (some .boolean) D vwCl (tysM T) A false []) {ro : Int32} {so : Sg} {lo : Lg} {r13 : (Int64 × Int32 × Int32 × Int32 × Sg × Lg) → Option (Int32 × Sg × Lg)} {r25 : (Int64 × Int32 × Int32 × Int32 × Int32 × Sg × Lg) → Option (Int32 × Sg × Lg)} (hr13 : ∀ (v1 : Int64) (v3 : Int32) (v4 : Int32) (v5 : Int32) (sg : Sg) (lg : Lg), r13 (v1, v3, v4, v5, sg, lg) = some (ro, so, lo) → ∀ (H : Heap) (locs : List Loc) (ls : Array Slot), WS ZM D vwCl T ad sg lg A s.heap H locs → lv_has ls 12 [(0, .ref (ad 0)), (1, .long v1), (3, .int v3), (4, .int v4), (5, .int v5)] → W p l e rmX12_betters s m args below meth c H locs 0 0 (MQ below (QI ZM D vwCl T (tysM T) A (fun z => ad = z) ro so lo) args s 0 0 A) (F0 m 13 ls [])) (hr25 : ∀ (v1 : Int64) (v3 : Int32) (v4 : Int32) (v5 : Int32) (v6 : Int32) (sg : Sg) (lg : Lg), r25 (v1, v3, v4, v5, v6, sg, lg) = some (ro, so, lo) → ∀ (H : Heap) (locs : List Loc) (ls : Array Slot), WS ZM D vwCl T ad sg lg A s.heap H locs → lv_has ls 12 [(0, .ref (ad 0)), (1, .long v1), (3, .int v3), (4, .int v4), (5, .int v5), (6, .int v6)] → W p l e rmX12_betters s m args below meth c H locs 0 0 (MQ below (QI ZM D vwCl T (tysM T) A (fun z => ad = z) ro so lo) args s 0 0 A) (F0 m 25 ls [])) : ∀ (v1 : Int64) (v3 : Int32) (v4 : Int32) (v5 : Int32) (v6 : Int32) (sg : Sg) (lg : Lg), ∀ (H : Heap) (locs : List Loc) (ls : Array Slot), WS ZM D vwCl T ad sg lg A s.heap H locs → lv_has ls 12 [(0, .ref (ad 0)), (1, .long v1), (3, .int v3), (4, .int v4), (5, .int v5), (6, .int v6)] → fX12_betters_25 r13 r25 v1 v3 v4 v5 v6 sg lg = some (ro, so, lo) → W p l e rmX12_betters s m args below meth c H locs 0 0 (MQ below (QI ZM D vwCl T (tysM T) A (fun z => ad = z) ro so lo) args s 0 0 A) (F0 m 25 ls []) := by
  obtain ⟨⟨hx, hb, hml, hown, hts⟩, hr, hlk, hK, hA, hsp⟩ := id C
  intro v1 v3 v4 v5 v6 sg lg H locs ls hw hl h
  unfold fX12_betters_25 at h
  refine lv_iload hx hb dX12_betters_25 (lv_at hl 5 rfl) ?_
  refine lv_aload_n hx hb dX12_betters_27 rfl (lv_at hl 0 rfl) ?_
  refine r_getI (ci := 12) (C := RX12) (U := TX12) (N := 18) hx hb hts kX12_betters_iX12 hown hK hw 0 (by decide) rfl rfl 4 (by decide) rfl (hts _ kX12_betters_f153) (fun _ h9 => h9) dX12_betters_28 ?_
  refine lv_icmp_ge (tgt := 166) hx hb dX12_betters_31 (by decide) (fun c1 => ?_) (fun c1 => ?_)
  · replace h := ite_t h c1
    obtain ⟨x2, ex2⟩ : ∃ z : Int32, z = (v5 + (1 : Int32)) := ⟨_, rfl⟩
    replace h := lt_get h x2 ex2
    refine lv_iinc (v := x2) (lv' := [(5, .int x2), (0, .ref (ad 0)), (1, .long v1), (3, .int v3), (4, .int v4), (6, .int v6)]) hx hb dX12_betters_166 hl (k := 4) rfl (by rw [ex2]; rfl) (by decide) rfl (fun ls hl => ?_)
    refine lv_goto (tgt := 13) hx hb dX12_betters_169 (by decide) ?_
    exact hr13 v1 v3 v4 x2 sg lg h _ _ _ hw (lv_sub hl [1, 2, 3, 4, 0] rfl)
  · replace h := ite_f h c1
    refine lv_aload_n hx hb dX12_betters_34 rfl (lv_at hl 0 rfl) ?_
    refine r_getR (ci := 12) (C := RX12) (U := TX12) (N := 18) hx hb hts kX12_betters_iX12 hown hK hw 0 (by decide) rfl rfl 3 (by decide) 3 rfl (hts _ kX12_betters_f16) (fun _ h9 => h9) dX12_betters_35 ?_
    refine lv_iload hx hb dX12_betters_38 (lv_at hl 4 rfl) ?_
    have hi3 := (gin_some h).1
    replace h := (gin_some h).2
    refine r_iald hx hb hK hw 3 0 12 (by decide) rfl rfl rfl hi3 dX12_betters_40 ?_
    refine lv_topi (fun x4 ex4 => ?_)
    replace h := lt_get h x4 ex4
    refine lv_istore (lv' := [(7, .int x4), (0, .ref (ad 0)), (1, .long v1), (3, .int v3), (4, .int v4), (5, .int v5), (6, .int v6)]) hx hb dX12_betters_41 hl (by decide) rfl (fun ls hl => ?_)
    refine lv_aload_n hx hb dX12_betters_43 rfl (lv_at hl 1 rfl) ?_
    refine lv_iload hx hb dX12_betters_44 (lv_at hl 5 rfl) ?_
    refine lv_iload hx hb dX12_betters_46 (lv_at hl 6 rfl) ?_
    obtain ⟨sg5, lg6, hq7, h2⟩ := bnd2_some h
    replace h := h2
    clear h2
    refine r_cVv (As := [.int v5, .int v6]) (rest := []) C hw 0 (by decide) (ci := 12) rfl rfl (mX12_shift l D T ad  H.size v5 v6 sg lg hq7) (cwV 2 hts gX12_betters_X12_shift rfl rfl rfl (by decide +kernel) ⟨Nat.le_of_ble_eq_true rfl, Nat.le_of_ble_eq_true rfl⟩) rfl hl.1 rfl (Nat.le_of_ble_eq_true rfl) dX12_betters_48 ⟨Nat.le_of_ble_eq_true rfl, Nat.le_of_ble_eq_true rfl⟩ (fun ad' H locs hp hw => ?_)
    subst hp
    refine W.widen (k := 0) (n := 0) (by decide) (by decide) ?_
    refine lv_aload_n hx hb dX12_betters_51 rfl (lv_at hl 1 rfl) ?_
    obtain ⟨y8, sg9, lg10, hq11, h2⟩ := bnd3_some h
    replace h := h2
    clear h2
    refine r_cVl (As := []) (rest := []) C hw 0 (by decide) (ci := 12) rfl rfl (mX12_weightNow l D T ad  H.size sg5 lg6 hq11) (cwV 0 hts gX12_betters_X12_weightNow rfl rfl rfl (by decide +kernel) ⟨Nat.le_of_ble_eq_true rfl, Nat.le_of_ble_eq_true rfl⟩) rfl hl.1 rfl (Nat.le_of_ble_eq_true rfl) dX12_betters_52 ⟨Nat.le_of_ble_eq_true rfl, Nat.le_of_ble_eq_true rfl⟩ (fun ad' H locs hp hw => ?_)
    subst hp
    refine W.widen (k := 0) (n := 0) (by decide) (by decide) ?_
    refine lv_lstore (lv' := [(8, .long y8), (7, .int x4), (0, .ref (ad 0)), (1, .long v1), (3, .int v3), (4, .int v4), (5, .int v5), (6, .int v6)]) hx hb dX12_betters_55 hl (by decide) rfl (fun ls hl => ?_)
    refine lv_aload_n hx hb dX12_betters_57 rfl (lv_at hl 2 rfl) ?_
    obtain ⟨y12, sg13, lg14, hq15, h2⟩ := bnd3_some h
    replace h := h2
    clear h2
    refine r_cVi (As := []) (rest := []) C hw 0 (by decide) (ci := 12) rfl rfl (mX12_faulty l D T ad  H.size sg9 lg10 hq15) (cwV 0 hts gX12_betters_X12_faulty rfl rfl rfl (by decide +kernel) ⟨Nat.le_of_ble_eq_true rfl, Nat.le_of_ble_eq_true rfl⟩) rfl hl.1 rfl (Nat.le_of_ble_eq_true rfl) dX12_betters_58 ⟨Nat.le_of_ble_eq_true rfl, Nat.le_of_ble_eq_true rfl⟩ (fun ad' H locs hp hw => ?_)
    subst hp
    refine W.widen (k := 0) (n := 0) (by decide) (by decide) ?_
    refine lv_if_ge (tgt := 68) hx hb dX12_betters_61 (by decide) (fun c16 => ?_) (fun c16 => ?_)
    · replace h := ite_t h c16
      refine lv_iconst (v := (0 : Int32)) hx hb dX12_betters_68 (by decide) ?_
      exact tX12_betters_69 C hr13 hr25 v1 v3 v4 v5 v6 x4 y8 (0 : Int32) sg13 lg14 _ _ _ hw (lv_sub hl [2, 3, 4, 5, 6, 7, 1, 0] rfl) h
    · replace h := ite_f h c16
      refine lv_iconst (v := (1 : Int32)) hx hb dX12_betters_64 (by decide) ?_
      refine lv_goto (tgt := 69) hx hb dX12_betters_65 (by decide) ?_
      exact tX12_betters_69 C hr13 hr25 v1 v3 v4 v5 v6 x4 y8 (1 : Int32) sg13 lg14 _ _ _ hw (lv_sub hl [2, 3, 4, 5, 6, 7, 1, 0] rfl) h
def LX12_betters_25 (r13 : (Int64 × Int32 × Int32 × Int32 × Sg × Lg) → Option (Int32 × Sg × Lg)) : (Int64 × Int32 × Int32 × Int32 × Int32 × Sg × Lg) → Option (Int32 × Sg × Lg) := loop (fun rec z => fX12_betters_25 r13 rec z.1 z.2.1 z.2.2.1 z.2.2.2.1 z.2.2.2.2.1 z.2.2.2.2.2.1 z.2.2.2.2.2.2)
theorem TX12_betters_25 (C : Cx p s m args meth c cX12_betters 12 RX12 wsX12_betters (some .boolean) D vwCl (tysM T) A false []) {ro : Int32} {so : Sg} {lo : Lg} {r13 : (Int64 × Int32 × Int32 × Int32 × Sg × Lg) → Option (Int32 × Sg × Lg)} (hr13 : ∀ (v1 : Int64) (v3 : Int32) (v4 : Int32) (v5 : Int32) (sg : Sg) (lg : Lg), r13 (v1, v3, v4, v5, sg, lg) = some (ro, so, lo) → ∀ (H : Heap) (locs : List Loc) (ls : Array Slot), WS ZM D vwCl T ad sg lg A s.heap H locs → lv_has ls 12 [(0, .ref (ad 0)), (1, .long v1), (3, .int v3), (4, .int v4), (5, .int v5)] → W p l e rmX12_betters s m args below meth c H locs 0 0 (MQ below (QI ZM D vwCl T (tysM T) A (fun z => ad = z) ro so lo) args s 0 0 A) (F0 m 13 ls [])) : ∀ (v1 : Int64) (v3 : Int32) (v4 : Int32) (v5 : Int32) (v6 : Int32) (sg : Sg) (lg : Lg), LX12_betters_25 r13 (v1, v3, v4, v5, v6, sg, lg) = some (ro, so, lo) → ∀ (H : Heap) (locs : List Loc) (ls : Array Slot), WS ZM D vwCl T ad sg lg A s.heap H locs → lv_has ls 12 [(0, .ref (ad 0)), (1, .long v1), (3, .int v3), (4, .int v4), (5, .int v5), (6, .int v6)] → W p l e rmX12_betters s m args below meth c H locs 0 0 (MQ below (QI ZM D vwCl T (tysM T) A (fun z => ad = z) ro so lo) args s 0 0 A) (F0 m 25 ls []) := by
  have key : ∀ z : (Int64 × Int32 × Int32 × Int32 × Int32 × Sg × Lg), LX12_betters_25 r13 z = some (ro, so, lo) → ∀ (H : Heap) (locs : List Loc) (ls : Array Slot), WS ZM D vwCl T ad z.2.2.2.2.2.1 z.2.2.2.2.2.2 A s.heap H locs → lv_has ls 12 [(0, .ref (ad 0)), (1, .long z.1), (3, .int z.2.1), (4, .int z.2.2.1), (5, .int z.2.2.2.1), (6, .int z.2.2.2.2.1)] → W p l e rmX12_betters s m args below meth c H locs 0 0 (MQ below (QI ZM D vwCl T (tysM T) A (fun z => ad = z) ro so lo) args s 0 0 A) (F0 m 25 ls []) := by
    intro z h
    unfold LX12_betters_25 at h
    exact loop_ind (fun rec z => fX12_betters_25 r13 rec z.1 z.2.1 z.2.2.1 z.2.2.2.1 z.2.2.2.2.1 z.2.2.2.2.2.1 z.2.2.2.2.2.2) (y := (ro, so, lo)) (P := fun z => ∀ (H : Heap) (locs : List Loc) (ls : Array Slot), WS ZM D vwCl T ad z.2.2.2.2.2.1 z.2.2.2.2.2.2 A s.heap H locs → lv_has ls 12 [(0, .ref (ad 0)), (1, .long z.1), (3, .int z.2.1), (4, .int z.2.2.1), (5, .int z.2.2.2.1), (6, .int z.2.2.2.2.1)] → W p l e rmX12_betters s m args below meth c H locs 0 0 (MQ below (QI ZM D vwCl T (tysM T) A (fun z => ad = z) ro so lo) args s 0 0 A) (F0 m 25 ls [])) (fun rec hrec z h H locs ls hw hl => tX12_betters_25 C hr13 (fun v1 v3 v4 v5 v6 sg lg => hrec (v1, v3, v4, v5, v6, sg, lg)) z.1 z.2.1 z.2.2.1 z.2.2.2.1 z.2.2.2.2.1 z.2.2.2.2.2.1 z.2.2.2.2.2.2 H locs ls hw hl h) z h
  exact fun v1 v3 v4 v5 v6 sg lg => key (v1, v3, v4, v5, v6, sg, lg)
def fX12_betters_13 (r13 : (Int64 × Int32 × Int32 × Int32 × Sg × Lg) → Option (Int32 × Sg × Lg)) (v1 : Int64) (v3 : Int32) (v4 : Int32) (v5 : Int32) (sg : Sg) (lg : Lg) : Option (Int32 × Sg × Lg) :=
  (if (sg 0 4) ≤ v5 then (if v3 < 0 then fX12_betters_183 v3 sg lg else bnd2 (fX12_shift v3 v4 sg lg) (fun sg3 lg4 => fX12_betters_183 v3 sg3 lg4)) else LX12_betters_25 r13 (v1, v3, v4, v5, (0 : Int32), sg, lg))
set_option maxHeartbeats 4000000 in
set_option maxRecDepth 100000 in
theorem tX12_betters_13 (C : Cx p s m args meth c cX12_betters 12 RX12 wsX12_betters (some .boolean) D vwCl (tysM T) A false []) {ro : Int32} {so : Sg} {lo : Lg} {r13 : (Int64 × Int32 × Int32 × Int32 × Sg × Lg) → Option (Int32 × Sg × Lg)} (hr13 : ∀ (v1 : Int64) (v3 : Int32) (v4 : Int32) (v5 : Int32) (sg : Sg) (lg : Lg), r13 (v1, v3, v4, v5, sg, lg) = some (ro, so, lo) → ∀ (H : Heap) (locs : List Loc) (ls : Array Slot), WS ZM D vwCl T ad sg lg A s.heap H locs → lv_has ls 12 [(0, .ref (ad 0)), (1, .long v1), (3, .int v3), (4, .int v4), (5, .int v5)] → W p l e rmX12_betters s m args below meth c H locs 0 0 (MQ below (QI ZM D vwCl T (tysM T) A (fun z => ad = z) ro so lo) args s 0 0 A) (F0 m 13 ls [])) : ∀ (v1 : Int64) (v3 : Int32) (v4 : Int32) (v5 : Int32) (sg : Sg) (lg : Lg), ∀ (H : Heap) (locs : List Loc) (ls : Array Slot), WS ZM D vwCl T ad sg lg A s.heap H locs → lv_has ls 12 [(0, .ref (ad 0)), (1, .long v1), (3, .int v3), (4, .int v4), (5, .int v5)] → fX12_betters_13 r13 v1 v3 v4 v5 sg lg = some (ro, so, lo) → W p l e rmX12_betters s m args below meth c H locs 0 0 (MQ below (QI ZM D vwCl T (tysM T) A (fun z => ad = z) ro so lo) args s 0 0 A) (F0 m 13 ls []) := by
  obtain ⟨⟨hx, hb, hml, hown, hts⟩, hr, hlk, hK, hA, hsp⟩ := id C
  intro v1 v3 v4 v5 sg lg H locs ls hw hl h
  unfold fX12_betters_13 at h
  refine lv_iload hx hb dX12_betters_13 (lv_at hl 4 rfl) ?_
  refine lv_aload_n hx hb dX12_betters_15 rfl (lv_at hl 0 rfl) ?_
  refine r_getI (ci := 12) (C := RX12) (U := TX12) (N := 18) hx hb hts kX12_betters_iX12 hown hK hw 0 (by decide) rfl rfl 4 (by decide) rfl (hts _ kX12_betters_f153) (fun _ h9 => h9) dX12_betters_16 ?_
  refine lv_icmp_ge (tgt := 172) hx hb dX12_betters_19 (by decide) (fun c1 => ?_) (fun c1 => ?_)
  · replace h := ite_t h c1
    refine lv_iload_n hx hb dX12_betters_172 rfl (lv_at hl 2 rfl) ?_
    refine lv_if_lt (tgt := 183) hx hb dX12_betters_173 (by decide) (fun c2 => ?_) (fun c2 => ?_)
    · replace h := ite_t h c2
      exact tX12_betters_183 C v3 sg lg _ _ _ hw (lv_sub hl [2] rfl) h
    · replace h := ite_f h c2
      refine lv_aload_n hx hb dX12_betters_176 rfl (lv_at hl 0 rfl) ?_
      refine lv_iload_n hx hb dX12_betters_177 rfl (lv_at hl 2 rfl) ?_
      refine lv_iload hx hb dX12_betters_178 (lv_at hl 3 rfl) ?_
      obtain ⟨sg3, lg4, hq5, h2⟩ := bnd2_some h
      replace h := h2
      clear h2
      refine r_cVv (As := [.int v3, .int v4]) (rest := []) C hw 0 (by decide) (ci := 12) rfl rfl (mX12_shift l D T ad  H.size v3 v4 sg lg hq5) (cwV 2 hts gX12_betters_X12_shift rfl rfl rfl (by decide +kernel) ⟨Nat.le_of_ble_eq_true rfl, Nat.le_of_ble_eq_true rfl⟩) rfl hl.1 rfl (Nat.le_of_ble_eq_true rfl) dX12_betters_180 ⟨Nat.le_of_ble_eq_true rfl, Nat.le_of_ble_eq_true rfl⟩ (fun ad' H locs hp hw => ?_)
      subst hp
      refine W.widen (k := 0) (n := 0) (by decide) (by decide) ?_
      exact tX12_betters_183 C v3 sg3 lg4 _ _ _ hw (lv_sub hl [2] rfl) h
  · replace h := ite_f h c1
    refine lv_iconst (v := (0 : Int32)) hx hb dX12_betters_22 (by decide) ?_
    refine lv_istore (lv' := [(6, .int (0 : Int32)), (0, .ref (ad 0)), (1, .long v1), (3, .int v3), (4, .int v4), (5, .int v5)]) hx hb dX12_betters_23 hl (by decide) rfl (fun ls hl => ?_)
    exact TX12_betters_25 C hr13 v1 v3 v4 v5 (0 : Int32) sg lg h _ _ _ hw (lv_sub hl [1, 2, 3, 4, 5, 0] rfl)
def LX12_betters_13  : (Int64 × Int32 × Int32 × Int32 × Sg × Lg) → Option (Int32 × Sg × Lg) := loop (fun rec z => fX12_betters_13 rec z.1 z.2.1 z.2.2.1 z.2.2.2.1 z.2.2.2.2.1 z.2.2.2.2.2)
theorem TX12_betters_13 (C : Cx p s m args meth c cX12_betters 12 RX12 wsX12_betters (some .boolean) D vwCl (tysM T) A false []) {ro : Int32} {so : Sg} {lo : Lg}   : ∀ (v1 : Int64) (v3 : Int32) (v4 : Int32) (v5 : Int32) (sg : Sg) (lg : Lg), LX12_betters_13 (v1, v3, v4, v5, sg, lg) = some (ro, so, lo) → ∀ (H : Heap) (locs : List Loc) (ls : Array Slot), WS ZM D vwCl T ad sg lg A s.heap H locs → lv_has ls 12 [(0, .ref (ad 0)), (1, .long v1), (3, .int v3), (4, .int v4), (5, .int v5)] → W p l e rmX12_betters s m args below meth c H locs 0 0 (MQ below (QI ZM D vwCl T (tysM T) A (fun z => ad = z) ro so lo) args s 0 0 A) (F0 m 13 ls []) := by
  have key : ∀ z : (Int64 × Int32 × Int32 × Int32 × Sg × Lg), LX12_betters_13  z = some (ro, so, lo) → ∀ (H : Heap) (locs : List Loc) (ls : Array Slot), WS ZM D vwCl T ad z.2.2.2.2.1 z.2.2.2.2.2 A s.heap H locs → lv_has ls 12 [(0, .ref (ad 0)), (1, .long z.1), (3, .int z.2.1), (4, .int z.2.2.1), (5, .int z.2.2.2.1)] → W p l e rmX12_betters s m args below meth c H locs 0 0 (MQ below (QI ZM D vwCl T (tysM T) A (fun z => ad = z) ro so lo) args s 0 0 A) (F0 m 13 ls []) := by
    intro z h
    unfold LX12_betters_13 at h
    exact loop_ind (fun rec z => fX12_betters_13 rec z.1 z.2.1 z.2.2.1 z.2.2.2.1 z.2.2.2.2.1 z.2.2.2.2.2) (y := (ro, so, lo)) (P := fun z => ∀ (H : Heap) (locs : List Loc) (ls : Array Slot), WS ZM D vwCl T ad z.2.2.2.2.1 z.2.2.2.2.2 A s.heap H locs → lv_has ls 12 [(0, .ref (ad 0)), (1, .long z.1), (3, .int z.2.1), (4, .int z.2.2.1), (5, .int z.2.2.2.1)] → W p l e rmX12_betters s m args below meth c H locs 0 0 (MQ below (QI ZM D vwCl T (tysM T) A (fun z => ad = z) ro so lo) args s 0 0 A) (F0 m 13 ls [])) (fun rec hrec z h H locs ls hw hl => tX12_betters_13 C  (fun v1 v3 v4 v5 sg lg => hrec (v1, v3, v4, v5, sg, lg)) z.1 z.2.1 z.2.2.1 z.2.2.2.1 z.2.2.2.2.1 z.2.2.2.2.2 H locs ls hw hl h) z h
  exact fun v1 v3 v4 v5 sg lg => key (v1, v3, v4, v5, sg, lg)
def fX12_betters  (sg : Sg) (lg : Lg) : Option (Int32 × Sg × Lg) :=
  bnd3 (fX12_weightNow sg lg) (fun y1 sg2 lg3 => LX12_betters_13 (y1, (-1 : Int32), (-1 : Int32), (0 : Int32), sg2, lg3))
set_option maxHeartbeats 4000000 in
set_option maxRecDepth 100000 in
theorem tX12_betters_0 (C : Cx p s m args meth c cX12_betters 12 RX12 wsX12_betters (some .boolean) D vwCl (tysM T) A false []) {ro : Int32} {so : Sg} {lo : Lg}   : ∀ (sg : Sg) (lg : Lg), ∀ (H : Heap) (locs : List Loc) (ls : Array Slot), WS ZM D vwCl T ad sg lg A s.heap H locs → lv_has ls 12 [(0, .ref (ad 0))] → fX12_betters sg lg = some (ro, so, lo) → W p l e rmX12_betters s m args below meth c H locs 0 0 (MQ below (QI ZM D vwCl T (tysM T) A (fun z => ad = z) ro so lo) args s 0 0 A) (F0 m 0 ls []) := by
  obtain ⟨⟨hx, hb, hml, hown, hts⟩, hr, hlk, hK, hA, hsp⟩ := id C
  intro sg lg H locs ls hw hl h
  unfold fX12_betters at h
  refine lv_aload_n hx hb dX12_betters_0 rfl (lv_at hl 0 rfl) ?_
  obtain ⟨y1, sg2, lg3, hq4, h2⟩ := bnd3_some h
  replace h := h2
  clear h2
  refine r_cVl (As := []) (rest := []) C hw 0 (by decide) (ci := 12) rfl rfl (mX12_weightNow l D T ad  H.size sg lg hq4) (cwV 0 hts gX12_betters_X12_weightNow rfl rfl rfl (by decide +kernel) ⟨Nat.le_of_ble_eq_true rfl, Nat.le_of_ble_eq_true rfl⟩) rfl hl.1 rfl (Nat.le_of_ble_eq_true rfl) dX12_betters_1 ⟨Nat.le_of_ble_eq_true rfl, Nat.le_of_ble_eq_true rfl⟩ (fun ad' H locs hp hw => ?_)
  subst hp
  refine W.widen (k := 0) (n := 0) (by decide) (by decide) ?_
  refine lv_lstore_n (lv' := [(1, .long y1), (0, .ref (ad 0))]) hx hb dX12_betters_4 rfl hl (by decide) rfl (fun ls hl => ?_)
  refine lv_iconst (v := (-1 : Int32)) hx hb dX12_betters_5 (by decide) ?_
  refine lv_istore_n (lv' := [(3, .int (-1 : Int32)), (1, .long y1), (0, .ref (ad 0))]) hx hb dX12_betters_6 rfl hl (by decide) rfl (fun ls hl => ?_)
  refine lv_iconst (v := (-1 : Int32)) hx hb dX12_betters_7 (by decide) ?_
  refine lv_istore (lv' := [(4, .int (-1 : Int32)), (3, .int (-1 : Int32)), (1, .long y1), (0, .ref (ad 0))]) hx hb dX12_betters_8 hl (by decide) rfl (fun ls hl => ?_)
  refine lv_iconst (v := (0 : Int32)) hx hb dX12_betters_10 (by decide) ?_
  refine lv_istore (lv' := [(5, .int (0 : Int32)), (4, .int (-1 : Int32)), (3, .int (-1 : Int32)), (1, .long y1), (0, .ref (ad 0))]) hx hb dX12_betters_11 hl (by decide) rfl (fun ls hl => ?_)
  exact TX12_betters_13 C y1 (-1 : Int32) (-1 : Int32) (0 : Int32) sg2 lg3 h _ _ _ hw (lv_sub hl [4, 3, 2, 1, 0] rfl)
theorem mX12_betters (l : Launch) (D : va_G) (T : Nat → ClassId) (ad : Nat → Nat)  (sz : Nat)   (sg : Sg) (lg : Lg) {ro : Int32} {so : Sg} {lo : Lg} (h : fX12_betters sg lg = some (ro, so, lo)) : Met l yX12_betters wsX12_betters rmX12_betters (PreZ ZM D vwCl T (tysM T) ad sg lg false [] [.ref (ad 0)] sz) (QI ZM D vwCl T (tysM T) (va_A (zwd ZM T ad sg lg) sz) (fun z => ad = z) ro so lo) 0 0 (va_A (zwd ZM T ad sg lg) sz) :=
  metZ [.ref (ad 0)] sz (by decide) rfl (Nat.le_of_ble_eq_true rfl) (fun p e s m below meth c ls C hw hl => tX12_betters_0 C sg lg _ _ _ hw hl h)
-- PeckYardModel.better(I)J
def rmX12_better : Room := { frames := 7, cells := 0, slots := 0, locals := 168 }
theorem kX12_better_c192 : Cond.constantLong RX12 192 (40) ∈ wsX12_better := by decide +kernel
theorem kX12_better_c61 : Cond.constantLong RX12 61 (-2000000002) ∈ wsX12_better := by decide +kernel
theorem kX12_better_c72 : Cond.constantLong RX12 72 (-2000000001) ∈ wsX12_better := by decide +kernel
def fX12_better_29 (r29 : (Int32 × Int32 × Sg × Lg) → Option (Int64 × Sg × Lg)) (v1 : Int32) (v2 : Int32) (sg : Sg) (lg : Lg) : Option (Int64 × Sg × Lg) :=
  (if v1 ≤ v2 then some (v2.toInt64, sg, lg) else bnd3 (fX12_betters sg lg) (fun y2 sg3 lg4 => (if y2 = 0 then some (v2.toInt64, sg3, lg4) else lt (v2 + (1 : Int32)) (fun x7 => r29 (v1, x7, sg3, lg4)))))
set_option maxHeartbeats 4000000 in
set_option maxRecDepth 100000 in
theorem tX12_better_29 (C : Cx p s m args meth c cX12_better 3 RX12 wsX12_better (some .long) D vwCl (tysM T) A false []) {ro : Int64} {so : Sg} {lo : Lg} {r29 : (Int32 × Int32 × Sg × Lg) → Option (Int64 × Sg × Lg)} (hr29 : ∀ (v1 : Int32) (v2 : Int32) (sg : Sg) (lg : Lg), r29 (v1, v2, sg, lg) = some (ro, so, lo) → ∀ (H : Heap) (locs : List Loc) (ls : Array Slot), WS ZM D vwCl T ad sg lg A s.heap H locs → lv_has ls 3 [(0, .ref (ad 0)), (1, .int v1), (2, .int v2)] → W p l e rmX12_better s m args below meth c H locs 0 0 (MQ below (QL ZM D vwCl T (tysM T) A (fun z => ad = z) ro so lo) args s 0 0 A) (F0 m 29 ls [])) : ∀ (v1 : Int32) (v2 : Int32) (sg : Sg) (lg : Lg), ∀ (H : Heap) (locs : List Loc) (ls : Array Slot), WS ZM D vwCl T ad sg lg A s.heap H locs → lv_has ls 3 [(0, .ref (ad 0)), (1, .int v1), (2, .int v2)] → fX12_better_29 r29 v1 v2 sg lg = some (ro, so, lo) → W p l e rmX12_better s m args below meth c H locs 0 0 (MQ below (QL ZM D vwCl T (tysM T) A (fun z => ad = z) ro so lo) args s 0 0 A) (F0 m 29 ls []) := by
  obtain ⟨⟨hx, hb, hml, hown, hts⟩, hr, hlk, hK, hA, hsp⟩ := id C
  intro v1 v2 sg lg H locs ls hw hl h
  unfold fX12_better_29 at h
  refine lv_iload_n hx hb dX12_better_29 rfl (lv_at hl 2 rfl) ?_
  refine lv_iload_n hx hb dX12_better_30 rfl (lv_at hl 1 rfl) ?_
  refine lv_icmp_ge (tgt := 47) hx hb dX12_better_31 (by decide) (fun c1 => ?_) (fun c1 => ?_)
  · replace h := ite_t h c1
    refine lv_iload_n hx hb dX12_better_47 rfl (lv_at hl 2 rfl) ?_
    refine lv_i2l (v := v2.toInt64) hx hb dX12_better_48 rfl ?_
    cases h
    exact r_lret C hw rfl (by decide) (by decide) dX12_better_49
  · replace h := ite_f h c1
    refine lv_aload_n hx hb dX12_better_34 rfl (lv_at hl 0 rfl) ?_
    obtain ⟨y2, sg3, lg4, hq5, h2⟩ := bnd3_some h
    replace h := h2
    clear h2
    refine r_cVi (As := []) (rest := []) C hw 0 (by decide) (ci := 12) rfl rfl (mX12_betters l D T ad  H.size sg lg hq5) (cwV 0 hts gX12_better_X12_betters rfl rfl rfl (by decide +kernel) ⟨Nat.le_of_ble_eq_true rfl, Nat.le_of_ble_eq_true rfl⟩) rfl hl.1 rfl (Nat.le_of_ble_eq_true rfl) dX12_better_35 ⟨Nat.le_of_ble_eq_true rfl, Nat.le_of_ble_eq_true rfl⟩ (fun ad' H locs hp hw => ?_)
    subst hp
    refine W.widen (k := 0) (n := 0) (by decide) (by decide) ?_
    refine lv_if_eq (tgt := 47) hx hb dX12_better_38 (by decide) (fun c6 => ?_) (fun c6 => ?_)
    · replace h := ite_t h c6
      refine lv_iload_n hx hb dX12_better_47 rfl (lv_at hl 2 rfl) ?_
      refine lv_i2l (v := v2.toInt64) hx hb dX12_better_48 rfl ?_
      cases h
      exact r_lret C hw rfl (by decide) (by decide) dX12_better_49
    · replace h := ite_f h c6
      obtain ⟨x7, ex7⟩ : ∃ z : Int32, z = (v2 + (1 : Int32)) := ⟨_, rfl⟩
      replace h := lt_get h x7 ex7
      refine lv_iinc (v := x7) (lv' := [(2, .int x7), (0, .ref (ad 0)), (1, .int v1)]) hx hb dX12_better_41 hl (k := 2) rfl (by rw [ex7]; rfl) (by decide) rfl (fun ls hl => ?_)
      refine lv_goto (tgt := 29) hx hb dX12_better_44 (by decide) ?_
      exact hr29 v1 x7 sg3 lg4 h _ _ _ hw (lv_sub hl [1, 2, 0] rfl)
def LX12_better_29  : (Int32 × Int32 × Sg × Lg) → Option (Int64 × Sg × Lg) := loop (fun rec z => fX12_better_29 rec z.1 z.2.1 z.2.2.1 z.2.2.2)
theorem TX12_better_29 (C : Cx p s m args meth c cX12_better 3 RX12 wsX12_better (some .long) D vwCl (tysM T) A false []) {ro : Int64} {so : Sg} {lo : Lg}   : ∀ (v1 : Int32) (v2 : Int32) (sg : Sg) (lg : Lg), LX12_better_29 (v1, v2, sg, lg) = some (ro, so, lo) → ∀ (H : Heap) (locs : List Loc) (ls : Array Slot), WS ZM D vwCl T ad sg lg A s.heap H locs → lv_has ls 3 [(0, .ref (ad 0)), (1, .int v1), (2, .int v2)] → W p l e rmX12_better s m args below meth c H locs 0 0 (MQ below (QL ZM D vwCl T (tysM T) A (fun z => ad = z) ro so lo) args s 0 0 A) (F0 m 29 ls []) := by
  have key : ∀ z : (Int32 × Int32 × Sg × Lg), LX12_better_29  z = some (ro, so, lo) → ∀ (H : Heap) (locs : List Loc) (ls : Array Slot), WS ZM D vwCl T ad z.2.2.1 z.2.2.2 A s.heap H locs → lv_has ls 3 [(0, .ref (ad 0)), (1, .int z.1), (2, .int z.2.1)] → W p l e rmX12_better s m args below meth c H locs 0 0 (MQ below (QL ZM D vwCl T (tysM T) A (fun z => ad = z) ro so lo) args s 0 0 A) (F0 m 29 ls []) := by
    intro z h
    unfold LX12_better_29 at h
    exact loop_ind (fun rec z => fX12_better_29 rec z.1 z.2.1 z.2.2.1 z.2.2.2) (y := (ro, so, lo)) (P := fun z => ∀ (H : Heap) (locs : List Loc) (ls : Array Slot), WS ZM D vwCl T ad z.2.2.1 z.2.2.2 A s.heap H locs → lv_has ls 3 [(0, .ref (ad 0)), (1, .int z.1), (2, .int z.2.1)] → W p l e rmX12_better s m args below meth c H locs 0 0 (MQ below (QL ZM D vwCl T (tysM T) A (fun z => ad = z) ro so lo) args s 0 0 A) (F0 m 29 ls [])) (fun rec hrec z h H locs ls hw hl => tX12_better_29 C  (fun v1 v2 sg lg => hrec (v1, v2, sg, lg)) z.1 z.2.1 z.2.2.1 z.2.2.2 H locs ls hw hl h) z h
  exact fun v1 v2 sg lg => key (v1, v2, sg, lg)
def fX12_better  (v1 : Int32) (sg : Sg) (lg : Lg) : Option (Int64 × Sg × Lg) :=
  bnd3 (fX12_isIn v1.toInt64 (1 : Int64) (40 : Int64) sg lg) (fun y1 sg2 lg3 => (if y1 = 0 then some ((-2000000001 : Int64), sg2, lg3) else bnd3 (fX12_isWhole sg2 lg3) (fun y6 sg7 lg8 => (if y6 = 0 then some ((-2000000002 : Int64), sg7, lg8) else LX12_better_29 (v1, (0 : Int32), sg7, lg8)))))
set_option maxHeartbeats 4000000 in
set_option maxRecDepth 100000 in
theorem tX12_better_0 (C : Cx p s m args meth c cX12_better 3 RX12 wsX12_better (some .long) D vwCl (tysM T) A false []) {ro : Int64} {so : Sg} {lo : Lg}   : ∀ (v1 : Int32) (sg : Sg) (lg : Lg), ∀ (H : Heap) (locs : List Loc) (ls : Array Slot), WS ZM D vwCl T ad sg lg A s.heap H locs → lv_has ls 3 [(0, .ref (ad 0)), (1, .int v1)] → fX12_better v1 sg lg = some (ro, so, lo) → W p l e rmX12_better s m args below meth c H locs 0 0 (MQ below (QL ZM D vwCl T (tysM T) A (fun z => ad = z) ro so lo) args s 0 0 A) (F0 m 0 ls []) := by
  obtain ⟨⟨hx, hb, hml, hown, hts⟩, hr, hlk, hK, hA, hsp⟩ := id C
  intro v1 sg lg H locs ls hw hl h
  unfold fX12_better at h
  refine lv_iload_n hx hb dX12_better_0 rfl (lv_at hl 1 rfl) ?_
  refine lv_i2l (v := v1.toInt64) hx hb dX12_better_1 rfl ?_
  refine lv_lconst (v := (1 : Int64)) hx hb dX12_better_2 (by decide) ?_
  refine lv_ldc2 hx hb hown (hts _ kX12_better_c192) dX12_better_3 ?_
  obtain ⟨y1, sg2, lg3, hq4, h2⟩ := bnd3_some h
  replace h := h2
  clear h2
  refine r_cSi (As := [.long v1.toInt64, .long (1 : Int64), .long (40 : Int64)]) (rest := []) C hw (mX12_isIn l D T ad  H.size v1.toInt64 (1 : Int64) (40 : Int64) sg lg hq4) (va_cwS 3 hts gX12_better_X12_isIn rfl rfl rfl (by decide +kernel) ⟨Nat.le_of_ble_eq_true rfl, Nat.le_of_ble_eq_true rfl⟩) rfl hl.1 rfl (Nat.le_of_ble_eq_true rfl) dX12_better_6 ⟨Nat.le_of_ble_eq_true rfl, Nat.le_of_ble_eq_true rfl⟩ (fun ad' H locs hp hw => ?_)
  subst hp
  refine W.widen (k := 0) (n := 0) (by decide) (by decide) ?_
  refine lv_if_ne (tgt := 16) hx hb dX12_better_9 (by decide) (fun c5 => ?_) (fun c5 => ?_)
  · replace h := ite_f h c5
    refine lv_aload_n hx hb dX12_better_16 rfl (lv_at hl 0 rfl) ?_
    obtain ⟨y6, sg7, lg8, hq9, h2⟩ := bnd3_some h
    replace h := h2
    clear h2
    refine r_cVi (As := []) (rest := []) C hw 0 (by decide) (ci := 12) rfl rfl (mX12_isWhole l D T ad  H.size sg2 lg3 hq9) (cwV 0 hts gX12_better_X12_isWhole rfl rfl rfl (by decide +kernel) ⟨Nat.le_of_ble_eq_true rfl, Nat.le_of_ble_eq_true rfl⟩) rfl hl.1 rfl (Nat.le_of_ble_eq_true rfl) dX12_better_17 ⟨Nat.le_of_ble_eq_true rfl, Nat.le_of_ble_eq_true rfl⟩ (fun ad' H locs hp hw => ?_)
    subst hp
    refine W.widen (k := 0) (n := 0) (by decide) (by decide) ?_
    refine lv_if_ne (tgt := 27) hx hb dX12_better_20 (by decide) (fun c10 => ?_) (fun c10 => ?_)
    · replace h := ite_f h c10
      refine lv_iconst (v := (0 : Int32)) hx hb dX12_better_27 (by decide) ?_
      refine lv_istore_n (lv' := [(2, .int (0 : Int32)), (0, .ref (ad 0)), (1, .int v1)]) hx hb dX12_better_28 rfl hl (by decide) rfl (fun ls hl => ?_)
      exact TX12_better_29 C v1 (0 : Int32) sg7 lg8 h _ _ _ hw (lv_sub hl [1, 2, 0] rfl)
    · replace h := ite_t h c10
      refine lv_ldc2 hx hb hown (hts _ kX12_better_c61) dX12_better_23 ?_
      cases h
      exact r_lret C hw rfl (by decide) (by decide) dX12_better_26
  · replace h := ite_t h c5
    refine lv_ldc2 hx hb hown (hts _ kX12_better_c72) dX12_better_12 ?_
    cases h
    exact r_lret C hw rfl (by decide) (by decide) dX12_better_15
theorem mX12_better (l : Launch) (D : va_G) (T : Nat → ClassId) (ad : Nat → Nat)  (sz : Nat)   (v1 : Int32) (sg : Sg) (lg : Lg) {ro : Int64} {so : Sg} {lo : Lg} (h : fX12_better v1 sg lg = some (ro, so, lo)) : Met l yX12_better wsX12_better rmX12_better (PreZ ZM D vwCl T (tysM T) ad sg lg false [] [.ref (ad 0), .int v1] sz) (QL ZM D vwCl T (tysM T) (va_A (zwd ZM T ad sg lg) sz) (fun z => ad = z) ro so lo) 0 0 (va_A (zwd ZM T ad sg lg) sz) :=
  metZ [.ref (ad 0), .int v1] sz (by decide) rfl (Nat.le_of_ble_eq_true rfl) (fun p e s m below meth c ls C hw hl => tX12_better_0 C v1 sg lg _ _ _ hw hl h)
-- PeckYardModel.turn()J
def rmX12_turn : Room := { frames := 0, cells := 0, slots := 0, locals := 0 }
theorem kX12_turn_f153 : Cond.fieldLink RX12 153 "PeckYardModel" "inHand" "I" ∈ wsX12_turn := by decide +kernel
theorem kX12_turn_iX12 : ∀ w ∈ u_ws RX12 TX12 18, w ∈ wsX12_turn := by decide +kernel
theorem kX12_turn_f16 : Cond.fieldLink RX12 16 "PeckYardModel" "hand" "[I" ∈ wsX12_turn := by decide +kernel
def fX12_turn_2 (r2 : (Int32 × Sg × Lg) → Option (Int64 × Sg × Lg)) (v1 : Int32) (sg : Sg) (lg : Lg) : Option (Int64 × Sg × Lg) :=
  (if ((sg 0 4) / (2 : Int32)) ≤ v1 then some ((0 : Int64), sg, lg) else gin v1 12 (lt (sg 3 v1.toNatClampNeg) (fun x3 => lt (((sg 0 4) - (1 : Int32)) - v1) (fun x4 => gin x4 12 (lt (sg 3 x4.toNatClampNeg) (fun x6 => gin v1 12 (lt (up2 sg 3 v1.toNatClampNeg x6) (fun sg8 => gin (((sg8 0 4) - (1 : Int32)) - v1) 12 (lt (up2 sg8 3 (((sg8 0 4) - (1 : Int32)) - v1).toNatClampNeg x3) (fun sg10 => lt (v1 + (1 : Int32)) (fun x11 => r2 (x11, sg10, lg))))))))))))
set_option maxHeartbeats 4000000 in
set_option maxRecDepth 100000 in
theorem tX12_turn_2 (C : Cx p s m args meth c cX12_turn 3 RX12 wsX12_turn (some .long) D vwCl (tysM T) A false []) {ro : Int64} {so : Sg} {lo : Lg} {r2 : (Int32 × Sg × Lg) → Option (Int64 × Sg × Lg)} (hr2 : ∀ (v1 : Int32) (sg : Sg) (lg : Lg), r2 (v1, sg, lg) = some (ro, so, lo) → ∀ (H : Heap) (locs : List Loc) (ls : Array Slot), WS ZM D vwCl T ad sg lg A s.heap H locs → lv_has ls 3 [(0, .ref (ad 0)), (1, .int v1)] → W p l e rmX12_turn s m args below meth c H locs 0 0 (MQ below (QL ZM D vwCl T (tysM T) A (fun z => ad = z) ro so lo) args s 0 0 A) (F0 m 2 ls [])) : ∀ (v1 : Int32) (sg : Sg) (lg : Lg), ∀ (H : Heap) (locs : List Loc) (ls : Array Slot), WS ZM D vwCl T ad sg lg A s.heap H locs → lv_has ls 3 [(0, .ref (ad 0)), (1, .int v1)] → fX12_turn_2 r2 v1 sg lg = some (ro, so, lo) → W p l e rmX12_turn s m args below meth c H locs 0 0 (MQ below (QL ZM D vwCl T (tysM T) A (fun z => ad = z) ro so lo) args s 0 0 A) (F0 m 2 ls []) := by
  obtain ⟨⟨hx, hb, hml, hown, hts⟩, hr, hlk, hK, hA, hsp⟩ := id C
  intro v1 sg lg H locs ls hw hl h
  unfold fX12_turn_2 at h
  refine lv_iload_n hx hb dX12_turn_2 rfl (lv_at hl 1 rfl) ?_
  refine lv_aload_n hx hb dX12_turn_3 rfl (lv_at hl 0 rfl) ?_
  refine r_getI (ci := 12) (C := RX12) (U := TX12) (N := 18) hx hb hts kX12_turn_iX12 hown hK hw 0 (by decide) rfl rfl 4 (by decide) rfl (hts _ kX12_turn_f153) (fun _ h9 => h9) dX12_turn_4 ?_
  refine lv_iconst (v := (2 : Int32)) hx hb dX12_turn_7 (by decide) ?_
  refine lv_idiv hx hb dX12_turn_8 (by decide) ?_
  refine lv_icmp_ge (tgt := 58) hx hb dX12_turn_9 (by decide) (fun c1 => ?_) (fun c1 => ?_)
  · replace h := ite_t h c1
    refine lv_lconst (v := (0 : Int64)) hx hb dX12_turn_58 (by decide) ?_
    cases h
    exact r_lret C hw rfl (by decide) (by decide) dX12_turn_59
  · replace h := ite_f h c1
    refine lv_aload_n hx hb dX12_turn_12 rfl (lv_at hl 0 rfl) ?_
    refine r_getR (ci := 12) (C := RX12) (U := TX12) (N := 18) hx hb hts kX12_turn_iX12 hown hK hw 0 (by decide) rfl rfl 3 (by decide) 3 rfl (hts _ kX12_turn_f16) (fun _ h9 => h9) dX12_turn_13 ?_
    refine lv_iload_n hx hb dX12_turn_16 rfl (lv_at hl 1 rfl) ?_
    have hi2 := (gin_some h).1
    replace h := (gin_some h).2
    refine r_iald hx hb hK hw 3 0 12 (by decide) rfl rfl rfl hi2 dX12_turn_17 ?_
    refine lv_topi (fun x3 ex3 => ?_)
    replace h := lt_get h x3 ex3
    refine lv_istore_n (lv' := [(2, .int x3), (0, .ref (ad 0)), (1, .int v1)]) hx hb dX12_turn_18 rfl hl (by decide) rfl (fun ls hl => ?_)
    refine lv_aload_n hx hb dX12_turn_19 rfl (lv_at hl 1 rfl) ?_
    refine r_getR (ci := 12) (C := RX12) (U := TX12) (N := 18) hx hb hts kX12_turn_iX12 hown hK hw 0 (by decide) rfl rfl 3 (by decide) 3 rfl (hts _ kX12_turn_f16) (fun _ h9 => h9) dX12_turn_20 ?_
    refine lv_iload_n hx hb dX12_turn_23 rfl (lv_at hl 2 rfl) ?_
    refine lv_aload_n hx hb dX12_turn_24 rfl (lv_at hl 1 rfl) ?_
    refine r_getR (ci := 12) (C := RX12) (U := TX12) (N := 18) hx hb hts kX12_turn_iX12 hown hK hw 0 (by decide) rfl rfl 3 (by decide) 3 rfl (hts _ kX12_turn_f16) (fun _ h9 => h9) dX12_turn_25 ?_
    refine lv_aload_n hx hb dX12_turn_28 rfl (lv_at hl 1 rfl) ?_
    refine r_getI (ci := 12) (C := RX12) (U := TX12) (N := 18) hx hb hts kX12_turn_iX12 hown hK hw 0 (by decide) rfl rfl 4 (by decide) rfl (hts _ kX12_turn_f153) (fun _ h9 => h9) dX12_turn_29 ?_
    refine lv_iconst (v := (1 : Int32)) hx hb dX12_turn_32 (by decide) ?_
    refine lv_isub hx hb dX12_turn_33 ?_
    refine lv_iload_n hx hb dX12_turn_34 rfl (lv_at hl 2 rfl) ?_
    refine lv_isub hx hb dX12_turn_35 ?_
    refine lv_topi (fun x4 ex4 => ?_)
    replace h := lt_get h x4 ex4
    have hi5 := (gin_some h).1
    replace h := (gin_some h).2
    refine r_iald hx hb hK hw 3 0 12 (by decide) rfl rfl rfl hi5 dX12_turn_36 ?_
    refine lv_topi (fun x6 ex6 => ?_)
    replace h := lt_get h x6 ex6
    have hi7 := (gin_some h).1
    replace h := (gin_some h).2
    refine r_iast ZM_ok hx hb hK hw 3 0 12 (by decide) rfl rfl rfl hi7 dX12_turn_37 (fun H locs sg8 esg8 hw => ?_)
    replace h := lt_get h sg8 esg8
    refine lv_aload_n hx hb dX12_turn_38 rfl (lv_at hl 1 rfl) ?_
    refine r_getR (ci := 12) (C := RX12) (U := TX12) (N := 18) hx hb hts kX12_turn_iX12 hown hK hw 0 (by decide) rfl rfl 3 (by decide) 3 rfl (hts _ kX12_turn_f16) (fun _ h9 => h9) dX12_turn_39 ?_
    refine lv_aload_n hx hb dX12_turn_42 rfl (lv_at hl 1 rfl) ?_
    refine r_getI (ci := 12) (C := RX12) (U := TX12) (N := 18) hx hb hts kX12_turn_iX12 hown hK hw 0 (by decide) rfl rfl 4 (by decide) rfl (hts _ kX12_turn_f153) (fun _ h9 => h9) dX12_turn_43 ?_
    refine lv_iconst (v := (1 : Int32)) hx hb dX12_turn_46 (by decide) ?_
    refine lv_isub hx hb dX12_turn_47 ?_
    refine lv_iload_n hx hb dX12_turn_48 rfl (lv_at hl 2 rfl) ?_
    refine lv_isub hx hb dX12_turn_49 ?_
    refine lv_iload_n hx hb dX12_turn_50 rfl (lv_at hl 0 rfl) ?_
    have hi9 := (gin_some h).1
    replace h := (gin_some h).2
    refine r_iast ZM_ok hx hb hK hw 3 0 12 (by decide) rfl rfl rfl hi9 dX12_turn_51 (fun H locs sg10 esg10 hw => ?_)
    replace h := lt_get h sg10 esg10
    obtain ⟨x11, ex11⟩ : ∃ z : Int32, z = (v1 + (1 : Int32)) := ⟨_, rfl⟩
    replace h := lt_get h x11 ex11
    refine lv_iinc (v := x11) (lv' := [(1, .int x11), (2, .int x3), (0, .ref (ad 0))]) hx hb dX12_turn_52 hl (k := 2) rfl (by rw [ex11]; rfl) (by decide) rfl (fun ls hl => ?_)
    refine lv_goto (tgt := 2) hx hb dX12_turn_55 (by decide) ?_
    exact hr2 x11 sg10 lg h _ _ _ hw (lv_sub hl [2, 0] rfl)
def LX12_turn_2  : (Int32 × Sg × Lg) → Option (Int64 × Sg × Lg) := loop (fun rec z => fX12_turn_2 rec z.1 z.2.1 z.2.2)
theorem TX12_turn_2 (C : Cx p s m args meth c cX12_turn 3 RX12 wsX12_turn (some .long) D vwCl (tysM T) A false []) {ro : Int64} {so : Sg} {lo : Lg}   : ∀ (v1 : Int32) (sg : Sg) (lg : Lg), LX12_turn_2 (v1, sg, lg) = some (ro, so, lo) → ∀ (H : Heap) (locs : List Loc) (ls : Array Slot), WS ZM D vwCl T ad sg lg A s.heap H locs → lv_has ls 3 [(0, .ref (ad 0)), (1, .int v1)] → W p l e rmX12_turn s m args below meth c H locs 0 0 (MQ below (QL ZM D vwCl T (tysM T) A (fun z => ad = z) ro so lo) args s 0 0 A) (F0 m 2 ls []) := by
  have key : ∀ z : (Int32 × Sg × Lg), LX12_turn_2  z = some (ro, so, lo) → ∀ (H : Heap) (locs : List Loc) (ls : Array Slot), WS ZM D vwCl T ad z.2.1 z.2.2 A s.heap H locs → lv_has ls 3 [(0, .ref (ad 0)), (1, .int z.1)] → W p l e rmX12_turn s m args below meth c H locs 0 0 (MQ below (QL ZM D vwCl T (tysM T) A (fun z => ad = z) ro so lo) args s 0 0 A) (F0 m 2 ls []) := by
    intro z h
    unfold LX12_turn_2 at h
    exact loop_ind (fun rec z => fX12_turn_2 rec z.1 z.2.1 z.2.2) (y := (ro, so, lo)) (P := fun z => ∀ (H : Heap) (locs : List Loc) (ls : Array Slot), WS ZM D vwCl T ad z.2.1 z.2.2 A s.heap H locs → lv_has ls 3 [(0, .ref (ad 0)), (1, .int z.1)] → W p l e rmX12_turn s m args below meth c H locs 0 0 (MQ below (QL ZM D vwCl T (tysM T) A (fun z => ad = z) ro so lo) args s 0 0 A) (F0 m 2 ls [])) (fun rec hrec z h H locs ls hw hl => tX12_turn_2 C  (fun v1 sg lg => hrec (v1, sg, lg)) z.1 z.2.1 z.2.2 H locs ls hw hl h) z h
  exact fun v1 sg lg => key (v1, sg, lg)
def fX12_turn  (sg : Sg) (lg : Lg) : Option (Int64 × Sg × Lg) :=
  LX12_turn_2 ((0 : Int32), sg, lg)
set_option maxHeartbeats 4000000 in
set_option maxRecDepth 100000 in
theorem tX12_turn_0 (C : Cx p s m args meth c cX12_turn 3 RX12 wsX12_turn (some .long) D vwCl (tysM T) A false []) {ro : Int64} {so : Sg} {lo : Lg}   : ∀ (sg : Sg) (lg : Lg), ∀ (H : Heap) (locs : List Loc) (ls : Array Slot), WS ZM D vwCl T ad sg lg A s.heap H locs → lv_has ls 3 [(0, .ref (ad 0))] → fX12_turn sg lg = some (ro, so, lo) → W p l e rmX12_turn s m args below meth c H locs 0 0 (MQ below (QL ZM D vwCl T (tysM T) A (fun z => ad = z) ro so lo) args s 0 0 A) (F0 m 0 ls []) := by
  obtain ⟨⟨hx, hb, hml, hown, hts⟩, hr, hlk, hK, hA, hsp⟩ := id C
  intro sg lg H locs ls hw hl h
  unfold fX12_turn at h
  refine lv_iconst (v := (0 : Int32)) hx hb dX12_turn_0 (by decide) ?_
  refine lv_istore_n (lv' := [(1, .int (0 : Int32)), (0, .ref (ad 0))]) hx hb dX12_turn_1 rfl hl (by decide) rfl (fun ls hl => ?_)
  exact TX12_turn_2 C (0 : Int32) sg lg h _ _ _ hw (lv_sub hl [1, 0] rfl)
theorem mX12_turn (l : Launch) (D : va_G) (T : Nat → ClassId) (ad : Nat → Nat)  (sz : Nat)   (sg : Sg) (lg : Lg) {ro : Int64} {so : Sg} {lo : Lg} (h : fX12_turn sg lg = some (ro, so, lo)) : Met l yX12_turn wsX12_turn rmX12_turn (PreZ ZM D vwCl T (tysM T) ad sg lg false [] [.ref (ad 0)] sz) (QL ZM D vwCl T (tysM T) (va_A (zwd ZM T ad sg lg) sz) (fun z => ad = z) ro so lo) 0 0 (va_A (zwd ZM T ad sg lg) sz) :=
  metZ [.ref (ad 0)] sz (by decide) rfl (Nat.le_of_ble_eq_true rfl) (fun p e s m below meth c ls C hw hl => tX12_turn_0 C sg lg _ _ _ hw hl h)
end ZM
