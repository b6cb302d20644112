section ZM
variable {p : Program} {l : Launch} {e : Env} {s : State} {m : MethodId} {args : Array Value} {below : List Frame} {meth : Method} {c : Code} {D : va_G} {T : Nat → ClassId} {A : Nat → Prop} {ad a : Nat → Nat}
-- PeckYardModel.findBlocks()V
def rmX12_findBlocks : Room := { frames := 4, cells := 0, slots := 0, locals := 88 }
theorem kX12_findBlocks_f31 : Cond.fieldLink RX12 31 "PeckYardModel" "block" "[I" ∈ wsX12_findBlocks := by decide +kernel
theorem kX12_findBlocks_iX12 : ∀ w ∈ u_ws RX12 TX12 18, w ∈ wsX12_findBlocks := by decide +kernel
def fX12_findBlocks_110 (r23 : (Int32 × Sg × Lg) → Option (Sg × Lg)) (r31 : (Int32 × Int32 × Sg × Lg) → Option (Sg × Lg)) (v1 : Int32) (v2 : Int32) (sg : Sg) (lg : Lg) : Option (Sg × Lg) :=
  lt (v2 + (1 : Int32)) (fun x1 => r31 (v1, x1, sg, lg))
set_option maxHeartbeats 4000000 in
set_option maxRecDepth 100000 in
theorem tX12_findBlocks_110 (C : Cx p s m args meth c cX12_findBlocks 5 RX12 wsX12_findBlocks none D vwCl (tysM T) A false []) {so : Sg} {lo : Lg} {r23 : (Int32 × Sg × Lg) → Option (Sg × Lg)} {r31 : (Int32 × Int32 × Sg × Lg) → Option (Sg × Lg)} (hr23 : ∀ (v1 : Int32) (sg : Sg) (lg : Lg), r23 (v1, sg, lg) = some (so, lo) → ∀ (H : Heap) (locs : List Loc) (ls : Array Slot), WS ZM D vwCl T ad sg lg A s.heap H locs → lv_has ls 5 [(0, .ref (ad 0)), (1, .int v1)] → W p l e rmX12_findBlocks s m args below meth c H locs 0 0 (MQ below (QV ZM D vwCl T (tysM T) A (fun z => ad = z) so lo) args s 0 0 A) (F0 m 23 ls [])) (hr31 : ∀ (v1 : Int32) (v2 : Int32) (sg : Sg) (lg : Lg), r31 (v1, v2, sg, lg) = some (so, lo) → ∀ (H : Heap) (locs : List Loc) (ls : Array Slot), WS ZM D vwCl T ad sg lg A s.heap H locs → lv_has ls 5 [(0, .ref (ad 0)), (1, .int v1), (2, .int v2)] → W p l e rmX12_findBlocks s m args below meth c H locs 0 0 (MQ below (QV ZM D vwCl T (tysM T) A (fun z => ad = z) so lo) args s 0 0 A) (F0 m 31 ls [])) : ∀ (v1 : Int32) (v2 : Int32) (sg : Sg) (lg : Lg), ∀ (H : Heap) (locs : List Loc) (ls : Array Slot), WS ZM D vwCl T ad sg lg A s.heap H locs → lv_has ls 5 [(0, .ref (ad 0)), (1, .int v1), (2, .int v2)] → fX12_findBlocks_110 r23 r31 v1 v2 sg lg = some (so, lo) → W p l e rmX12_findBlocks s m args below meth c H locs 0 0 (MQ below (QV ZM D vwCl T (tysM T) A (fun z => ad = z) so lo) args s 0 0 A) (F0 m 110 ls []) := by
  obtain ⟨⟨hx, hb, hml, hown, hts⟩, hr, hlk, hK, hA, hsp⟩ := id C
  intro v1 v2 sg lg H locs ls hw hl h
  unfold fX12_findBlocks_110 at h
  obtain ⟨x1, ex1⟩ : ∃ z : Int32, z = (v2 + (1 : Int32)) := ⟨_, rfl⟩
  replace h := lt_get h x1 ex1
  refine lv_iinc (v := x1) (lv' := [(2, .int x1), (0, .ref (ad 0)), (1, .int v1)]) hx hb dX12_findBlocks_110 hl (k := 2) rfl (by rw [ex1]; rfl) (by decide) rfl (fun ls hl => ?_)
  refine lv_goto (tgt := 31) hx hb dX12_findBlocks_113 (by decide) ?_
  exact hr31 v1 x1 sg lg h _ _ _ hw (lv_sub hl [1, 2, 0] rfl)
def fX12_findBlocks_92 (r23 : (Int32 × Sg × Lg) → Option (Sg × Lg)) (r31 : (Int32 × Int32 × Sg × Lg) → Option (Sg × Lg)) (v1 : Int32) (v2 : Int32) (v3 : Int32) (w0 : Int32) (sg : Sg) (lg : Lg) : Option (Sg × Lg) :=
  gin v2 12 (lt (up2 sg 7 v2.toNatClampNeg w0) (fun sg2 => gin v3 12 (lt (up2 sg2 7 v3.toNatClampNeg w0) (fun sg4 => fX12_findBlocks_110 r23 r31 v1 v2 sg4 lg))))
set_option maxHeartbeats 4000000 in
set_option maxRecDepth 100000 in
theorem tX12_findBlocks_92 (C : Cx p s m args meth c cX12_findBlocks 5 RX12 wsX12_findBlocks none D vwCl (tysM T) A false []) {so : Sg} {lo : Lg} {r23 : (Int32 × Sg × Lg) → Option (Sg × Lg)} {r31 : (Int32 × Int32 × Sg × Lg) → Option (Sg × Lg)} (hr23 : ∀ (v1 : Int32) (sg : Sg) (lg : Lg), r23 (v1, sg, lg) = some (so, lo) → ∀ (H : Heap) (locs : List Loc) (ls : Array Slot), WS ZM D vwCl T ad sg lg A s.heap H locs → lv_has ls 5 [(0, .ref (ad 0)), (1, .int v1)] → W p l e rmX12_findBlocks s m args below meth c H locs 0 0 (MQ below (QV ZM D vwCl T (tysM T) A (fun z => ad = z) so lo) args s 0 0 A) (F0 m 23 ls [])) (hr31 : ∀ (v1 : Int32) (v2 : Int32) (sg : Sg) (lg : Lg), r31 (v1, v2, sg, lg) = some (so, lo) → ∀ (H : Heap) (locs : List Loc) (ls : Array Slot), WS ZM D vwCl T ad sg lg A s.heap H locs → lv_has ls 5 [(0, .ref (ad 0)), (1, .int v1), (2, .int v2)] → W p l e rmX12_findBlocks s m args below meth c H locs 0 0 (MQ below (QV ZM D vwCl T (tysM T) A (fun z => ad = z) so lo) args s 0 0 A) (F0 m 31 ls [])) : ∀ (v1 : Int32) (v2 : Int32) (v3 : Int32) (w0 : Int32) (sg : Sg) (lg : Lg), ∀ (H : Heap) (locs : List Loc) (ls : Array Slot), WS ZM D vwCl T ad sg lg A s.heap H locs → lv_has ls 5 [(0, .ref (ad 0)), (1, .int v1), (2, .int v2), (3, .int v3)] → fX12_findBlocks_92 r23 r31 v1 v2 v3 w0 sg lg = some (so, lo) → W p l e rmX12_findBlocks s m args below meth c H locs 0 0 (MQ below (QV ZM D vwCl T (tysM T) A (fun z => ad = z) so lo) args s 0 0 A) (F0 m 92 ls [.int w0]) := by
  obtain ⟨⟨hx, hb, hml, hown, hts⟩, hr, hlk, hK, hA, hsp⟩ := id C
  intro v1 v2 v3 w0 sg lg H locs ls hw hl h
  unfold fX12_findBlocks_92 at h
  refine lv_istore (lv' := [(4, .int w0), (0, .ref (ad 0)), (1, .int v1), (2, .int v2), (3, .int v3)]) hx hb dX12_findBlocks_92 hl (by decide) rfl (fun ls hl => ?_)
  refine lv_aload_n hx hb dX12_findBlocks_94 rfl (lv_at hl 1 rfl) ?_
  refine r_getR (ci := 12) (C := RX12) (U := TX12) (N := 18) hx hb hts kX12_findBlocks_iX12 hown hK hw 0 (by decide) rfl rfl 11 (by decide) 7 rfl (hts _ kX12_findBlocks_f31) (fun _ h9 => h9) dX12_findBlocks_95 ?_
  refine lv_iload_n hx hb dX12_findBlocks_98 rfl (lv_at hl 3 rfl) ?_
  refine lv_iload hx hb dX12_findBlocks_99 (lv_at hl 0 rfl) ?_
  have hi1 := (gin_some h).1
  replace h := (gin_some h).2
  refine r_iast ZM_ok hx hb hK hw 7 0 12 (by decide) rfl rfl rfl hi1 dX12_findBlocks_101 (fun H locs sg2 esg2 hw => ?_)
  replace h := lt_get h sg2 esg2
  refine lv_aload_n hx hb dX12_findBlocks_102 rfl (lv_at hl 1 rfl) ?_
  refine r_getR (ci := 12) (C := RX12) (U := TX12) (N := 18) hx hb hts kX12_findBlocks_iX12 hown hK hw 0 (by decide) rfl rfl 11 (by decide) 7 rfl (hts _ kX12_findBlocks_f31) (fun _ h9 => h9) dX12_findBlocks_103 ?_
  refine lv_iload_n hx hb dX12_findBlocks_106 rfl (lv_at hl 4 rfl) ?_
  refine lv_iload hx hb dX12_findBlocks_107 (lv_at hl 0 rfl) ?_
  have hi3 := (gin_some h).1
  replace h := (gin_some h).2
  refine r_iast ZM_ok hx hb hK hw 7 0 12 (by decide) rfl rfl rfl hi3 dX12_findBlocks_109 (fun H locs sg4 esg4 hw => ?_)
  replace h := lt_get h sg4 esg4
  exact tX12_findBlocks_110 C hr23 hr31 v1 v2 sg4 lg _ _ _ hw (lv_sub hl [1, 2, 3] rfl) h
def fX12_findBlocks_57 (r23 : (Int32 × Sg × Lg) → Option (Sg × Lg)) (r31 : (Int32 × Int32 × Sg × Lg) → Option (Sg × Lg)) (v1 : Int32) (v2 : Int32) (w0 : Int32) (sg : Sg) (lg : Lg) : Option (Sg × Lg) :=
  (if w0 < 0 then fX12_findBlocks_110 r23 r31 v1 v2 sg lg else gin v2 12 (gin w0 12 ((if (sg 7 w0.toNatClampNeg) ≤ (sg 7 v2.toNatClampNeg) then gin w0 12 (fX12_findBlocks_92 r23 r31 v1 v2 w0 (sg 7 w0.toNatClampNeg) sg lg) else gin v2 12 (fX12_findBlocks_92 r23 r31 v1 v2 w0 (sg 7 v2.toNatClampNeg) sg lg)))))
set_option maxHeartbeats 4000000 in
set_option maxRecDepth 100000 in
theorem tX12_findBlocks_57 (C : Cx p s m args meth c cX12_findBlocks 5 RX12 wsX12_findBlocks none D vwCl (tysM T) A false []) {so : Sg} {lo : Lg} {r23 : (Int32 × Sg × Lg) → Option (Sg × Lg)} {r31 : (Int32 × Int32 × Sg × Lg) → Option (Sg × Lg)} (hr23 : ∀ (v1 : Int32) (sg : Sg) (lg : Lg), r23 (v1, sg, lg) = some (so, lo) → ∀ (H : Heap) (locs : List Loc) (ls : Array Slot), WS ZM D vwCl T ad sg lg A s.heap H locs → lv_has ls 5 [(0, .ref (ad 0)), (1, .int v1)] → W p l e rmX12_findBlocks s m args below meth c H locs 0 0 (MQ below (QV ZM D vwCl T (tysM T) A (fun z => ad = z) so lo) args s 0 0 A) (F0 m 23 ls [])) (hr31 : ∀ (v1 : Int32) (v2 : Int32) (sg : Sg) (lg : Lg), r31 (v1, v2, sg, lg) = some (so, lo) → ∀ (H : Heap) (locs : List Loc) (ls : Array Slot), WS ZM D vwCl T ad sg lg A s.heap H locs → lv_has ls 5 [(0, .ref (ad 0)), (1, .int v1), (2, .int v2)] → W p l e rmX12_findBlocks s m args below meth c H locs 0 0 (MQ below (QV ZM D vwCl T (tysM T) A (fun z => ad = z) so lo) args s 0 0 A) (F0 m 31 ls [])) : ∀ (v1 : Int32) (v2 : Int32) (w0 : Int32) (sg : Sg) (lg : Lg), ∀ (H : Heap) (locs : List Loc) (ls : Array Slot), WS ZM D vwCl T ad sg lg A s.heap H locs → lv_has ls 5 [(0, .ref (ad 0)), (1, .int v1), (2, .int v2)] → fX12_findBlocks_57 r23 r31 v1 v2 w0 sg lg = some (so, lo) → W p l e rmX12_findBlocks s m args below meth c H locs 0 0 (MQ below (QV ZM D vwCl T (tysM T) A (fun z => ad = z) so lo) args s 0 0 A) (F0 m 57 ls [.int w0]) := by
  obtain ⟨⟨hx, hb, hml, hown, hts⟩, hr, hlk, hK, hA, hsp⟩ := id C
  intro v1 v2 w0 sg lg H locs ls hw hl h
  unfold fX12_findBlocks_57 at h
  refine lv_istore_n (lv' := [(3, .int w0), (0, .ref (ad 0)), (1, .int v1), (2, .int v2)]) hx hb dX12_findBlocks_57 rfl hl (by decide) rfl (fun ls hl => ?_)
  refine lv_iload_n hx hb dX12_findBlocks_58 rfl (lv_at hl 0 rfl) ?_
  refine lv_if_lt (tgt := 110) hx hb dX12_findBlocks_59 (by decide) (fun c1 => ?_) (fun c1 => ?_)
  · replace h := ite_t h c1
    exact tX12_findBlocks_110 C hr23 hr31 v1 v2 sg lg _ _ _ hw (lv_sub hl [1, 2, 3] rfl) h
  · replace h := ite_f h c1
    refine lv_aload_n hx hb dX12_findBlocks_62 rfl (lv_at hl 1 rfl) ?_
    refine r_getR (ci := 12) (C := RX12) (U := TX12) (N := 18) hx hb hts kX12_findBlocks_iX12 hown hK hw 0 (by decide) rfl rfl 11 (by decide) 7 rfl (hts _ kX12_findBlocks_f31) (fun _ h9 => h9) dX12_findBlocks_63 ?_
    refine lv_iload_n hx hb dX12_findBlocks_66 rfl (lv_at hl 3 rfl) ?_
    have hi2 := (gin_some h).1
    replace h := (gin_some h).2
    refine r_iald hx hb hK hw 7 0 12 (by decide) rfl rfl rfl hi2 dX12_findBlocks_67 ?_
    refine lv_aload_n hx hb dX12_findBlocks_68 rfl (lv_at hl 1 rfl) ?_
    refine r_getR (ci := 12) (C := RX12) (U := TX12) (N := 18) hx hb hts kX12_findBlocks_iX12 hown hK hw 0 (by decide) rfl rfl 11 (by decide) 7 rfl (hts _ kX12_findBlocks_f31) (fun _ h9 => h9) dX12_findBlocks_69 ?_
    refine lv_iload_n hx hb dX12_findBlocks_72 rfl (lv_at hl 0 rfl) ?_
    have hi3 := (gin_some h).1
    replace h := (gin_some h).2
    refine r_iald hx hb hK hw 7 0 12 (by decide) rfl rfl rfl hi3 dX12_findBlocks_73 ?_
    refine lv_icmp_ge (tgt := 86) hx hb dX12_findBlocks_74 (by decide) (fun c4 => ?_) (fun c4 => ?_)
    · replace h := ite_t h c4
      refine lv_aload_n hx hb dX12_findBlocks_86 rfl (lv_at hl 1 rfl) ?_
      refine r_getR (ci := 12) (C := RX12) (U := TX12) (N := 18) hx hb hts kX12_findBlocks_iX12 hown hK hw 0 (by decide) rfl rfl 11 (by decide) 7 rfl (hts _ kX12_findBlocks_f31) (fun _ h9 => h9) dX12_findBlocks_87 ?_
      refine lv_iload_n hx hb dX12_findBlocks_90 rfl (lv_at hl 0 rfl) ?_
      have hi5 := (gin_some h).1
      replace h := (gin_some h).2
      refine r_iald hx hb hK hw 7 0 12 (by decide) rfl rfl rfl hi5 dX12_findBlocks_91 ?_
      exact tX12_findBlocks_92 C hr23 hr31 v1 v2 w0 (sg 7 w0.toNatClampNeg) sg lg _ _ _ hw (lv_sub hl [1, 2, 3, 0] rfl) h
    · replace h := ite_f h c4
      refine lv_aload_n hx hb dX12_findBlocks_77 rfl (lv_at hl 1 rfl) ?_
      refine r_getR (ci := 12) (C := RX12) (U := TX12) (N := 18) hx hb hts kX12_findBlocks_iX12 hown hK hw 0 (by decide) rfl rfl 11 (by decide) 7 rfl (hts _ kX12_findBlocks_f31) (fun _ h9 => h9) dX12_findBlocks_78 ?_
      refine lv_iload_n hx hb dX12_findBlocks_81 rfl (lv_at hl 3 rfl) ?_
      have hi6 := (gin_some h).1
      replace h := (gin_some h).2
      refine r_iald hx hb hK hw 7 0 12 (by decide) rfl rfl rfl hi6 dX12_findBlocks_82 ?_
      refine lv_goto (tgt := 92) hx hb dX12_findBlocks_83 (by decide) ?_
      exact tX12_findBlocks_92 C hr23 hr31 v1 v2 w0 (sg 7 v2.toNatClampNeg) sg lg _ _ _ hw (lv_sub hl [1, 2, 3, 0] rfl) h
def fX12_findBlocks_31 (r23 : (Int32 × Sg × Lg) → Option (Sg × Lg)) (r31 : (Int32 × Int32 × Sg × Lg) → Option (Sg × Lg)) (v1 : Int32) (v2 : Int32) (sg : Sg) (lg : Lg) : Option (Sg × Lg) :=
  bnd3 (fX12_hens sg lg) (fun y1 sg2 lg3 => (if y1 ≤ v2 then lt (v1 + (1 : Int32)) (fun x6 => r23 (x6, sg2, lg3)) else bnd3 (fX12_kind v2 sg2 lg3) (fun y7 sg8 lg9 => (if y7 = (3 : Int32) then bnd3 (fX12_askedBy v2 sg8 lg9) (fun y12 sg13 lg14 => fX12_findBlocks_57 r23 r31 v1 v2 y12 sg13 lg14) else fX12_findBlocks_57 r23 r31 v1 v2 (-1 : Int32) sg8 lg9))))
set_option maxHeartbeats 4000000 in
set_option maxRecDepth 100000 in
theorem tX12_findBlocks_31 (C : Cx p s m args meth c cX12_findBlocks 5 RX12 wsX12_findBlocks none D vwCl (tysM T) A false []) {so : Sg} {lo : Lg} {r23 : (Int32 × Sg × Lg) → Option (Sg × Lg)} {r31 : (Int32 × Int32 × Sg × Lg) → Option (Sg × Lg)} (hr23 : ∀ (v1 : Int32) (sg : Sg) (lg : Lg), r23 (v1, sg, lg) = some (so, lo) → ∀ (H : Heap) (locs : List Loc) (ls : Array Slot), WS ZM D vwCl T ad sg lg A s.heap H locs → lv_has ls 5 [(0, .ref (ad 0)), (1, .int v1)] → W p l e rmX12_findBlocks s m args below meth c H locs 0 0 (MQ below (QV ZM D vwCl T (tysM T) A (fun z => ad = z) so lo) args s 0 0 A) (F0 m 23 ls [])) (hr31 : ∀ (v1 : Int32) (v2 : Int32) (sg : Sg) (lg : Lg), r31 (v1, v2, sg, lg) = some (so, lo) → ∀ (H : Heap) (locs : List Loc) (ls : Array Slot), WS ZM D vwCl T ad sg lg A s.heap H locs → lv_has ls 5 [(0, .ref (ad 0)), (1, .int v1), (2, .int v2)] → W p l e rmX12_findBlocks s m args below meth c H locs 0 0 (MQ below (QV ZM D vwCl T (tysM T) A (fun z => ad = z) so lo) args s 0 0 A) (F0 m 31 ls [])) : ∀ (v1 : Int32) (v2 : Int32) (sg : Sg) (lg : Lg), ∀ (H : Heap) (locs : List Loc) (ls : Array Slot), WS ZM D vwCl T ad sg lg A s.heap H locs → lv_has ls 5 [(0, .ref (ad 0)), (1, .int v1), (2, .int v2)] → fX12_findBlocks_31 r23 r31 v1 v2 sg lg = some (so, lo) → W p l e rmX12_findBlocks s m args below meth c H locs 0 0 (MQ below (QV ZM D vwCl T (tysM T) A (fun z => ad = z) so lo) args s 0 0 A) (F0 m 31 ls []) := by
  obtain ⟨⟨hx, hb, hml, hown, hts⟩, hr, hlk, hK, hA, hsp⟩ := id C
  intro v1 v2 sg lg H locs ls hw hl h
  unfold fX12_findBlocks_31 at h
  refine lv_iload_n hx hb dX12_findBlocks_31 rfl (lv_at hl 2 rfl) ?_
  refine lv_aload_n hx hb dX12_findBlocks_32 rfl (lv_at hl 0 rfl) ?_
  obtain ⟨y1, sg2, lg3, hq4, h2⟩ := bnd3_some h
  replace h := h2
  clear h2
  refine r_cVi (As := []) (rest := [.int v2]) C hw 0 (by decide) (ci := 12) rfl rfl (mX12_hens l D T ad  H.size sg lg hq4) (cwV 0 hts gX12_findBlocks_X12_hens rfl rfl rfl (by decide +kernel) ⟨Nat.le_of_ble_eq_true rfl, Nat.le_of_ble_eq_true rfl⟩) rfl hl.1 rfl (Nat.le_of_ble_eq_true rfl) dX12_findBlocks_33 ⟨Nat.le_of_ble_eq_true rfl, Nat.le_of_ble_eq_true rfl⟩ (fun ad' H locs hp hw => ?_)
  subst hp
  refine W.widen (k := 0) (n := 0) (by decide) (by decide) ?_
  refine lv_icmp_ge (tgt := 116) hx hb dX12_findBlocks_36 (by decide) (fun c5 => ?_) (fun c5 => ?_)
  · replace h := ite_t h c5
    obtain ⟨x6, ex6⟩ : ∃ z : Int32, z = (v1 + (1 : Int32)) := ⟨_, rfl⟩
    replace h := lt_get h x6 ex6
    refine lv_iinc (v := x6) (lv' := [(1, .int x6), (0, .ref (ad 0)), (2, .int v2)]) hx hb dX12_findBlocks_116 hl (k := 1) rfl (by rw [ex6]; rfl) (by decide) rfl (fun ls hl => ?_)
    refine lv_goto (tgt := 23) hx hb dX12_findBlocks_119 (by decide) ?_
    exact hr23 x6 sg2 lg3 h _ _ _ hw (lv_sub hl [1, 0] rfl)
  · replace h := ite_f h c5
    refine lv_aload_n hx hb dX12_findBlocks_39 rfl (lv_at hl 0 rfl) ?_
    refine lv_iload_n hx hb dX12_findBlocks_40 rfl (lv_at hl 2 rfl) ?_
    obtain ⟨y7, sg8, lg9, hq10, h2⟩ := bnd3_some h
    replace h := h2
    clear h2
    refine r_cVi (As := [.int v2]) (rest := []) C hw 0 (by decide) (ci := 12) rfl rfl (mX12_kind l D T ad  H.size v2 sg2 lg3 hq10) (cwV 1 hts gX12_findBlocks_X12_kind rfl rfl rfl (by decide +kernel) ⟨Nat.le_of_ble_eq_true rfl, Nat.le_of_ble_eq_true rfl⟩) rfl hl.1 rfl (Nat.le_of_ble_eq_true rfl) dX12_findBlocks_41 ⟨Nat.le_of_ble_eq_true rfl, Nat.le_of_ble_eq_true rfl⟩ (fun ad' H locs hp hw => ?_)
    subst hp
    refine W.widen (k := 0) (n := 0) (by decide) (by decide) ?_
    refine lv_iconst (v := (3 : Int32)) hx hb dX12_findBlocks_44 (by decide) ?_
    refine lv_icmp_ne (tgt := 56) hx hb dX12_findBlocks_45 (by decide) (fun c11 => ?_) (fun c11 => ?_)
    · replace h := ite_f h c11
      refine lv_iconst (v := (-1 : Int32)) hx hb dX12_findBlocks_56 (by decide) ?_
      exact tX12_findBlocks_57 C hr23 hr31 v1 v2 (-1 : Int32) sg8 lg9 _ _ _ hw (lv_sub hl [0, 1, 2] rfl) h
    · replace h := ite_t h c11
      refine lv_aload_n hx hb dX12_findBlocks_48 rfl (lv_at hl 0 rfl) ?_
      refine lv_iload_n hx hb dX12_findBlocks_49 rfl (lv_at hl 2 rfl) ?_
      obtain ⟨y12, sg13, lg14, hq15, h2⟩ := bnd3_some h
      replace h := h2
      clear h2
      refine r_cVi (As := [.int v2]) (rest := []) C hw 0 (by decide) (ci := 12) rfl rfl (mX12_askedBy l D T ad  H.size v2 sg8 lg9 hq15) (cwV 1 hts gX12_findBlocks_X12_askedBy rfl rfl rfl (by decide +kernel) ⟨Nat.le_of_ble_eq_true rfl, Nat.le_of_ble_eq_true rfl⟩) rfl hl.1 rfl (Nat.le_of_ble_eq_true rfl) dX12_findBlocks_50 ⟨Nat.le_of_ble_eq_true rfl, Nat.le_of_ble_eq_true rfl⟩ (fun ad' H locs hp hw => ?_)
      subst hp
      refine W.widen (k := 0) (n := 0) (by decide) (by decide) ?_
      refine lv_goto (tgt := 57) hx hb dX12_findBlocks_53 (by decide) ?_
      exact tX12_findBlocks_57 C hr23 hr31 v1 v2 y12 sg13 lg14 _ _ _ hw (lv_sub hl [0, 1, 2] rfl) h
def LX12_findBlocks_31 (r23 : (Int32 × Sg × Lg) → Option (Sg × Lg)) : (Int32 × Int32 × Sg × Lg) → Option (Sg × Lg) := loop (fun rec z => fX12_findBlocks_31 r23 rec z.1 z.2.1 z.2.2.1 z.2.2.2)
theorem TX12_findBlocks_31 (C : Cx p s m args meth c cX12_findBlocks 5 RX12 wsX12_findBlocks none D vwCl (tysM T) A false []) {so : Sg} {lo : Lg} {r23 : (Int32 × Sg × Lg) → Option (Sg × Lg)} (hr23 : ∀ (v1 : Int32) (sg : Sg) (lg : Lg), r23 (v1, sg, lg) = some (so, lo) → ∀ (H : Heap) (locs : List Loc) (ls : Array Slot), WS ZM D vwCl T ad sg lg A s.heap H locs → lv_has ls 5 [(0, .ref (ad 0)), (1, .int v1)] → W p l e rmX12_findBlocks s m args below meth c H locs 0 0 (MQ below (QV ZM D vwCl T (tysM T) A (fun z => ad = z) so lo) args s 0 0 A) (F0 m 23 ls [])) : ∀ (v1 : Int32) (v2 : Int32) (sg : Sg) (lg : Lg), LX12_findBlocks_31 r23 (v1, v2, sg, lg) = some (so, lo) → ∀ (H : Heap) (locs : List Loc) (ls : Array Slot), WS ZM D vwCl T ad sg lg A s.heap H locs → lv_has ls 5 [(0, .ref (ad 0)), (1, .int v1), (2, .int v2)] → W p l e rmX12_findBlocks s m args below meth c H locs 0 0 (MQ below (QV ZM D vwCl T (tysM T) A (fun z => ad = z) so lo) args s 0 0 A) (F0 m 31 ls []) := by
  have key : ∀ z : (Int32 × Int32 × Sg × Lg), LX12_findBlocks_31 r23 z = some (so, lo) → ∀ (H : Heap) (locs : List Loc) (ls : Array Slot), WS ZM D vwCl T ad z.2.2.1 z.2.2.2 A s.heap H locs → lv_has ls 5 [(0, .ref (ad 0)), (1, .int z.1), (2, .int z.2.1)] → W p l e rmX12_findBlocks s m args below meth c H locs 0 0 (MQ below (QV ZM D vwCl T (tysM T) A (fun z => ad = z) so lo) args s 0 0 A) (F0 m 31 ls []) := by
    intro z h
    unfold LX12_findBlocks_31 at h
    exact loop_ind (fun rec z => fX12_findBlocks_31 r23 rec z.1 z.2.1 z.2.2.1 z.2.2.2) (y := (so, lo)) (P := fun z => ∀ (H : Heap) (locs : List Loc) (ls : Array Slot), WS ZM D vwCl T ad z.2.2.1 z.2.2.2 A s.heap H locs → lv_has ls 5 [(0, .ref (ad 0)), (1, .int z.1), (2, .int z.2.1)] → W p l e rmX12_findBlocks s m args below meth c H locs 0 0 (MQ below (QV ZM D vwCl T (tysM T) A (fun z => ad = z) so lo) args s 0 0 A) (F0 m 31 ls [])) (fun rec hrec z h H locs ls hw hl => tX12_findBlocks_31 C hr23 (fun v1 v2 sg lg => hrec (v1, v2, sg, lg)) z.1 z.2.1 z.2.2.1 z.2.2.2 H locs ls hw hl h) z h
  exact fun v1 v2 sg lg => key (v1, v2, sg, lg)
def fX12_findBlocks_23 (r23 : (Int32 × Sg × Lg) → Option (Sg × Lg)) (v1 : Int32) (sg : Sg) (lg : Lg) : Option (Sg × Lg) :=
  (if (12 : Int32) ≤ v1 then some (sg, lg) else LX12_findBlocks_31 r23 (v1, (0 : Int32), sg, lg))
set_option maxHeartbeats 4000000 in
set_option maxRecDepth 100000 in
theorem tX12_findBlocks_23 (C : Cx p s m args meth c cX12_findBlocks 5 RX12 wsX12_findBlocks none D vwCl (tysM T) A false []) {so : Sg} {lo : Lg} {r23 : (Int32 × Sg × Lg) → Option (Sg × Lg)} (hr23 : ∀ (v1 : Int32) (sg : Sg) (lg : Lg), r23 (v1, sg, lg) = some (so, lo) → ∀ (H : Heap) (locs : List Loc) (ls : Array Slot), WS ZM D vwCl T ad sg lg A s.heap H locs → lv_has ls 5 [(0, .ref (ad 0)), (1, .int v1)] → W p l e rmX12_findBlocks s m args below meth c H locs 0 0 (MQ below (QV ZM D vwCl T (tysM T) A (fun z => ad = z) so lo) args s 0 0 A) (F0 m 23 ls [])) : ∀ (v1 : Int32) (sg : Sg) (lg : Lg), ∀ (H : Heap) (locs : List Loc) (ls : Array Slot), WS ZM D vwCl T ad sg lg A s.heap H locs → lv_has ls 5 [(0, .ref (ad 0)), (1, .int v1)] → fX12_findBlocks_23 r23 v1 sg lg = some (so, lo) → W p l e rmX12_findBlocks s m args below meth c H locs 0 0 (MQ below (QV ZM D vwCl T (tysM T) A (fun z => ad = z) so lo) args s 0 0 A) (F0 m 23 ls []) := by
  obtain ⟨⟨hx, hb, hml, hown, hts⟩, hr, hlk, hK, hA, hsp⟩ := id C
  intro v1 sg lg H locs ls hw hl h
  unfold fX12_findBlocks_23 at h
  refine lv_iload_n hx hb dX12_findBlocks_23 rfl (lv_at hl 1 rfl) ?_
  refine lv_bipush (v := (12 : Int32)) hx hb dX12_findBlocks_24 (by decide) ?_
  refine lv_icmp_ge (tgt := 122) hx hb dX12_findBlocks_26 (by decide) (fun c1 => ?_) (fun c1 => ?_)
  · replace h := ite_t h c1
    cases h
    exact r_vret C hw rfl (by decide) (by decide) dX12_findBlocks_122
  · replace h := ite_f h c1
    refine lv_iconst (v := (0 : Int32)) hx hb dX12_findBlocks_29 (by decide) ?_
    refine lv_istore_n (lv' := [(2, .int (0 : Int32)), (0, .ref (ad 0)), (1, .int v1)]) hx hb dX12_findBlocks_30 rfl hl (by decide) rfl (fun ls hl => ?_)
    exact TX12_findBlocks_31 C hr23 v1 (0 : Int32) sg lg h _ _ _ hw (lv_sub hl [1, 2, 0] rfl)
def LX12_findBlocks_23  : (Int32 × Sg × Lg) → Option (Sg × Lg) := loop (fun rec z => fX12_findBlocks_23 rec z.1 z.2.1 z.2.2)
theorem TX12_findBlocks_23 (C : Cx p s m args meth c cX12_findBlocks 5 RX12 wsX12_findBlocks none D vwCl (tysM T) A false []) {so : Sg} {lo : Lg}   : ∀ (v1 : Int32) (sg : Sg) (lg : Lg), LX12_findBlocks_23 (v1, sg, lg) = some (so, lo) → ∀ (H : Heap) (locs : List Loc) (ls : Array Slot), WS ZM D vwCl T ad sg lg A s.heap H locs → lv_has ls 5 [(0, .ref (ad 0)), (1, .int v1)] → W p l e rmX12_findBlocks s m args below meth c H locs 0 0 (MQ below (QV ZM D vwCl T (tysM T) A (fun z => ad = z) so lo) args s 0 0 A) (F0 m 23 ls []) := by
  have key : ∀ z : (Int32 × Sg × Lg), LX12_findBlocks_23  z = some (so, lo) → ∀ (H : Heap) (locs : List Loc) (ls : Array Slot), WS ZM D vwCl T ad z.2.1 z.2.2 A s.heap H locs → lv_has ls 5 [(0, .ref (ad 0)), (1, .int z.1)] → W p l e rmX12_findBlocks s m args below meth c H locs 0 0 (MQ below (QV ZM D vwCl T (tysM T) A (fun z => ad = z) so lo) args s 0 0 A) (F0 m 23 ls []) := by
    intro z h
    unfold LX12_findBlocks_23 at h
    exact loop_ind (fun rec z => fX12_findBlocks_23 rec z.1 z.2.1 z.2.2) (y := (so, lo)) (P := fun z => ∀ (H : Heap) (locs : List Loc) (ls : Array Slot), WS ZM D vwCl T ad z.2.1 z.2.2 A s.heap H locs → lv_has ls 5 [(0, .ref (ad 0)), (1, .int z.1)] → W p l e rmX12_findBlocks s m args below meth c H locs 0 0 (MQ below (QV ZM D vwCl T (tysM T) A (fun z => ad = z) so lo) args s 0 0 A) (F0 m 23 ls [])) (fun rec hrec z h H locs ls hw hl => tX12_findBlocks_23 C  (fun v1 sg lg => hrec (v1, sg, lg)) z.1 z.2.1 z.2.2 H locs ls hw hl h) z h
  exact fun v1 sg lg => key (v1, sg, lg)
def fX12_findBlocks_2 (r2 : (Int32 × Sg × Lg) → Option (Sg × Lg)) (v1 : Int32) (sg : Sg) (lg : Lg) : Option (Sg × Lg) :=
  (if (12 : Int32) ≤ v1 then LX12_findBlocks_23 ((0 : Int32), sg, lg) else gin v1 12 (lt (up2 sg 7 v1.toNatClampNeg v1) (fun sg3 => lt (v1 + (1 : Int32)) (fun x4 => r2 (x4, sg3, lg)))))
set_option maxHeartbeats 4000000 in
set_option maxRecDepth 100000 in
theorem tX12_findBlocks_2 (C : Cx p s m args meth c cX12_findBlocks 5 RX12 wsX12_findBlocks none D vwCl (tysM T) A false []) {so : Sg} {lo : Lg} {r2 : (Int32 × Sg × Lg) → Option (Sg × Lg)} (hr2 : ∀ (v1 : Int32) (sg : Sg) (lg : Lg), r2 (v1, sg, lg) = some (so, lo) → ∀ (H : Heap) (locs : List Loc) (ls : Array Slot), WS ZM D vwCl T ad sg lg A s.heap H locs → lv_has ls 5 [(0, .ref (ad 0)), (1, .int v1)] → W p l e rmX12_findBlocks s m args below meth c H locs 0 0 (MQ below (QV ZM D vwCl T (tysM T) A (fun z => ad = z) so lo) args s 0 0 A) (F0 m 2 ls [])) : ∀ (v1 : Int32) (sg : Sg) (lg : Lg), ∀ (H : Heap) (locs : List Loc) (ls : Array Slot), WS ZM D vwCl T ad sg lg A s.heap H locs → lv_has ls 5 [(0, .ref (ad 0)), (1, .int v1)] → fX12_findBlocks_2 r2 v1 sg lg = some (so, lo) → W p l e rmX12_findBlocks s m args below meth c H locs 0 0 (MQ below (QV ZM D vwCl T (tysM T) A (fun z => ad = z) so lo) args s 0 0 A) (F0 m 2 ls []) := by
  obtain ⟨⟨hx, hb, hml, hown, hts⟩, hr, hlk, hK, hA, hsp⟩ := id C
  intro v1 sg lg H locs ls hw hl h
  unfold fX12_findBlocks_2 at h
  refine lv_iload_n hx hb dX12_findBlocks_2 rfl (lv_at hl 1 rfl) ?_
  refine lv_bipush (v := (12 : Int32)) hx hb dX12_findBlocks_3 (by decide) ?_
  refine lv_icmp_ge (tgt := 21) hx hb dX12_findBlocks_5 (by decide) (fun c1 => ?_) (fun c1 => ?_)
  · replace h := ite_t h c1
    refine lv_iconst (v := (0 : Int32)) hx hb dX12_findBlocks_21 (by decide) ?_
    refine lv_istore_n (lv' := [(1, .int (0 : Int32)), (0, .ref (ad 0))]) hx hb dX12_findBlocks_22 rfl hl (by decide) rfl (fun ls hl => ?_)
    exact TX12_findBlocks_23 C (0 : Int32) sg lg h _ _ _ hw (lv_sub hl [1, 0] rfl)
  · replace h := ite_f h c1
    refine lv_aload_n hx hb dX12_findBlocks_8 rfl (lv_at hl 0 rfl) ?_
    refine r_getR (ci := 12) (C := RX12) (U := TX12) (N := 18) hx hb hts kX12_findBlocks_iX12 hown hK hw 0 (by decide) rfl rfl 11 (by decide) 7 rfl (hts _ kX12_findBlocks_f31) (fun _ h9 => h9) dX12_findBlocks_9 ?_
    refine lv_iload_n hx hb dX12_findBlocks_12 rfl (lv_at hl 1 rfl) ?_
    refine lv_iload_n hx hb dX12_findBlocks_13 rfl (lv_at hl 1 rfl) ?_
    have hi2 := (gin_some h).1
    replace h := (gin_some h).2
    refine r_iast ZM_ok hx hb hK hw 7 0 12 (by decide) rfl rfl rfl hi2 dX12_findBlocks_14 (fun H locs sg3 esg3 hw => ?_)
    replace h := lt_get h sg3 esg3
    obtain ⟨x4, ex4⟩ : ∃ z : Int32, z = (v1 + (1 : Int32)) := ⟨_, rfl⟩
    replace h := lt_get h x4 ex4
    refine lv_iinc (v := x4) (lv' := [(1, .int x4), (0, .ref (ad 0))]) hx hb dX12_findBlocks_15 hl (k := 1) rfl (by rw [ex4]; rfl) (by decide) rfl (fun ls hl => ?_)
    refine lv_goto (tgt := 2) hx hb dX12_findBlocks_18 (by decide) ?_
    exact hr2 x4 sg3 lg h _ _ _ hw (lv_sub hl [1, 0] rfl)
def LX12_findBlocks_2  : (Int32 × Sg × Lg) → Option (Sg × Lg) := loop (fun rec z => fX12_findBlocks_2 rec z.1 z.2.1 z.2.2)
theorem TX12_findBlocks_2 (C : Cx p s m args meth c cX12_findBlocks 5 RX12 wsX12_findBlocks none D vwCl (tysM T) A false []) {so : Sg} {lo : Lg}   : ∀ (v1 : Int32) (sg : Sg) (lg : Lg), LX12_findBlocks_2 (v1, sg, lg) = some (so, lo) → ∀ (H : Heap) (locs : List Loc) (ls : Array Slot), WS ZM D vwCl T ad sg lg A s.heap H locs → lv_has ls 5 [(0, .ref (ad 0)), (1, .int v1)] → W p l e rmX12_findBlocks s m args below meth c H locs 0 0 (MQ below (QV ZM D vwCl T (tysM T) A (fun z => ad = z) so lo) args s 0 0 A) (F0 m 2 ls []) := by
  have key : ∀ z : (Int32 × Sg × Lg), LX12_findBlocks_2  z = some (so, lo) → ∀ (H : Heap) (locs : List Loc) (ls : Array Slot), WS ZM D vwCl T ad z.2.1 z.2.2 A s.heap H locs → lv_has ls 5 [(0, .ref (ad 0)), (1, .int z.1)] → W p l e rmX12_findBlocks s m args below meth c H locs 0 0 (MQ below (QV ZM D vwCl T (tysM T) A (fun z => ad = z) so lo) args s 0 0 A) (F0 m 2 ls []) := by
    intro z h
    unfold LX12_findBlocks_2 at h
    exact loop_ind (fun rec z => fX12_findBlocks_2 rec z.1 z.2.1 z.2.2) (y := (so, lo)) (P := fun z => ∀ (H : Heap) (locs : List Loc) (ls : Array Slot), WS ZM D vwCl T ad z.2.1 z.2.2 A s.heap H locs → lv_has ls 5 [(0, .ref (ad 0)), (1, .int z.1)] → W p l e rmX12_findBlocks s m args below meth c H locs 0 0 (MQ below (QV ZM D vwCl T (tysM T) A (fun z => ad = z) so lo) args s 0 0 A) (F0 m 2 ls [])) (fun rec hrec z h H locs ls hw hl => tX12_findBlocks_2 C  (fun v1 sg lg => hrec (v1, sg, lg)) z.1 z.2.1 z.2.2 H locs ls hw hl h) z h
  exact fun v1 sg lg => key (v1, sg, lg)
def fX12_findBlocks  (sg : Sg) (lg : Lg) : Option (Sg × Lg) :=
  LX12_findBlocks_2 ((0 : Int32), sg, lg)
set_option maxHeartbeats 4000000 in
set_option maxRecDepth 100000 in
theorem tX12_findBlocks_0 (C : Cx p s m args meth c cX12_findBlocks 5 RX12 wsX12_findBlocks none D vwCl (tysM T) A false []) {so : Sg} {lo : Lg}   : ∀ (sg : Sg) (lg : Lg), ∀ (H : Heap) (locs : List Loc) (ls : Array Slot), WS ZM D vwCl T ad sg lg A s.heap H locs → lv_has ls 5 [(0, .ref (ad 0))] → fX12_findBlocks sg lg = some (so, lo) → W p l e rmX12_findBlocks s m args below meth c H locs 0 0 (MQ below (QV ZM D vwCl T (tysM T) A (fun z => ad = z) so lo) args s 0 0 A) (F0 m 0 ls []) := by
  obtain ⟨⟨hx, hb, hml, hown, hts⟩, hr, hlk, hK, hA, hsp⟩ := id C
  intro sg lg H locs ls hw hl h
  unfold fX12_findBlocks at h
  refine lv_iconst (v := (0 : Int32)) hx hb dX12_findBlocks_0 (by decide) ?_
  refine lv_istore_n (lv' := [(1, .int (0 : Int32)), (0, .ref (ad 0))]) hx hb dX12_findBlocks_1 rfl hl (by decide) rfl (fun ls hl => ?_)
  exact TX12_findBlocks_2 C (0 : Int32) sg lg h _ _ _ hw (lv_sub hl [1, 0] rfl)
theorem mX12_findBlocks (l : Launch) (D : va_G) (T : Nat → ClassId) (ad : Nat → Nat)  (sz : Nat)   (sg : Sg) (lg : Lg) {so : Sg} {lo : Lg} (h : fX12_findBlocks sg lg = some (so, lo)) : Met l yX12_findBlocks wsX12_findBlocks rmX12_findBlocks (PreZ ZM D vwCl T (tysM T) ad sg lg false [] [.ref (ad 0)] sz) (QV ZM D vwCl T (tysM T) (va_A (zwd ZM T ad sg lg) sz) (fun z => ad = z) so lo) 0 0 (va_A (zwd ZM T ad sg lg) sz) :=
  metZ [.ref (ad 0)] sz (by decide) rfl (Nat.le_of_ble_eq_true rfl) (fun p e s m below meth c ls C hw hl => tX12_findBlocks_0 C sg lg _ _ _ hw hl h)
-- PeckYardModel.findDirect()V
def rmX12_findDirect : Room := { frames := 4, cells := 0, slots := 0, locals := 88 }
theorem kX12_findDirect_f27 : Cond.fieldLink RX12 27 "PeckYardModel" "leads" "[Z" ∈ wsX12_findDirect := by decide +kernel
theorem kX12_findDirect_iX12 : ∀ w ∈ u_ws RX12 TX12 18, w ∈ wsX12_findDirect := by decide +kernel
def fX12_findDirect_72 (r24 : (Int32 × Sg × Lg) → Option (Sg × Lg)) (v1 : Int32) (sg : Sg) (lg : Lg) : Option (Sg × Lg) :=
  lt (v1 + (1 : Int32)) (fun x1 => r24 (x1, sg, lg))
set_option maxHeartbeats 4000000 in
set_option maxRecDepth 100000 in
theorem tX12_findDirect_72 (C : Cx p s m args meth c cX12_findDirect 3 RX12 wsX12_findDirect none D vwCl (tysM T) A false []) {so : Sg} {lo : Lg} {r24 : (Int32 × Sg × Lg) → Option (Sg × Lg)} (hr24 : ∀ (v1 : Int32) (sg : Sg) (lg : Lg), r24 (v1, sg, lg) = some (so, lo) → ∀ (H : Heap) (locs : List Loc) (ls : Array Slot), WS ZM D vwCl T ad sg lg A s.heap H locs → lv_has ls 3 [(0, .ref (ad 0)), (1, .int v1)] → W p l e rmX12_findDirect s m args below meth c H locs 0 0 (MQ below (QV ZM D vwCl T (tysM T) A (fun z => ad = z) so lo) args s 0 0 A) (F0 m 24 ls [])) : ∀ (v1 : Int32) (sg : Sg) (lg : Lg), ∀ (H : Heap) (locs : List Loc) (ls : Array Slot), WS ZM D vwCl T ad sg lg A s.heap H locs → lv_has ls 3 [(0, .ref (ad 0)), (1, .int v1)] → fX12_findDirect_72 r24 v1 sg lg = some (so, lo) → W p l e rmX12_findDirect s m args below meth c H locs 0 0 (MQ below (QV ZM D vwCl T (tysM T) A (fun z => ad = z) so lo) args s 0 0 A) (F0 m 72 ls []) := by
  obtain ⟨⟨hx, hb, hml, hown, hts⟩, hr, hlk, hK, hA, hsp⟩ := id C
  intro v1 sg lg H locs ls hw hl h
  unfold fX12_findDirect_72 at h
  obtain ⟨x1, ex1⟩ : ∃ z : Int32, z = (v1 + (1 : Int32)) := ⟨_, rfl⟩
  replace h := lt_get h x1 ex1
  refine lv_iinc (v := x1) (lv' := [(1, .int x1), (0, .ref (ad 0))]) hx hb dX12_findDirect_72 hl (k := 1) rfl (by rw [ex1]; rfl) (by decide) rfl (fun ls hl => ?_)
  refine lv_goto (tgt := 24) hx hb dX12_findDirect_75 (by decide) ?_
  exact hr24 x1 sg lg h _ _ _ hw (lv_sub hl [1, 0] rfl)
def fX12_findDirect_70 (r24 : (Int32 × Sg × Lg) → Option (Sg × Lg)) (v1 : Int32) (w0 : Int32) (sg : Sg) (lg : Lg) : Option (Sg × Lg) :=
  gin w0 144 (lt (up2 sg 6 w0.toNatClampNeg ((1 : Int32) &&& 1)) (fun sg2 => fX12_findDirect_72 r24 v1 sg2 lg))
set_option maxHeartbeats 4000000 in
set_option maxRecDepth 100000 in
theorem tX12_findDirect_70 (C : Cx p s m args meth c cX12_findDirect 3 RX12 wsX12_findDirect none D vwCl (tysM T) A false []) {so : Sg} {lo : Lg} {r24 : (Int32 × Sg × Lg) → Option (Sg × Lg)} (hr24 : ∀ (v1 : Int32) (sg : Sg) (lg : Lg), r24 (v1, sg, lg) = some (so, lo) → ∀ (H : Heap) (locs : List Loc) (ls : Array Slot), WS ZM D vwCl T ad sg lg A s.heap H locs → lv_has ls 3 [(0, .ref (ad 0)), (1, .int v1)] → W p l e rmX12_findDirect s m args below meth c H locs 0 0 (MQ below (QV ZM D vwCl T (tysM T) A (fun z => ad = z) so lo) args s 0 0 A) (F0 m 24 ls [])) : ∀ (v1 : Int32) (w0 : Int32) (sg : Sg) (lg : Lg), ∀ (H : Heap) (locs : List Loc) (ls : Array Slot), WS ZM D vwCl T ad sg lg A s.heap H locs → lv_has ls 3 [(0, .ref (ad 0)), (1, .int v1)] → fX12_findDirect_70 r24 v1 w0 sg lg = some (so, lo) → W p l e rmX12_findDirect s m args below meth c H locs 0 0 (MQ below (QV ZM D vwCl T (tysM T) A (fun z => ad = z) so lo) args s 0 0 A) (F0 m 70 ls [.int w0, .ref (ad 6)]) := by
  obtain ⟨⟨hx, hb, hml, hown, hts⟩, hr, hlk, hK, hA, hsp⟩ := id C
  intro v1 w0 sg lg H locs ls hw hl h
  unfold fX12_findDirect_70 at h
  refine lv_iconst (v := (1 : Int32)) hx hb dX12_findDirect_70 (by decide) ?_
  have hi1 := (gin_some h).1
  replace h := (gin_some h).2
  refine r_zast ZM_ok hx hb hK hw 6 1 144 (by decide) rfl rfl rfl hi1 dX12_findDirect_71 (fun H locs sg2 esg2 hw => ?_)
  replace h := lt_get h sg2 esg2
  exact tX12_findDirect_72 C hr24 v1 sg2 lg _ _ _ hw (lv_sub hl [0, 1] rfl) h
def fX12_findDirect_24 (r24 : (Int32 × Sg × Lg) → Option (Sg × Lg)) (v1 : Int32) (sg : Sg) (lg : Lg) : Option (Sg × Lg) :=
  bnd3 (fX12_hens sg lg) (fun y1 sg2 lg3 => (if y1 ≤ v1 then some (sg2, lg3) else bnd3 (fX12_askedBy v1 sg2 lg3) (fun y6 sg7 lg8 => (if y6 < 0 then fX12_findDirect_72 r24 v1 sg7 lg8 else bnd3 (fX12_kind v1 sg7 lg8) (fun y11 sg12 lg13 => (if y11 = (2 : Int32) then fX12_findDirect_70 r24 v1 (((12 : Int32) * v1) + y6) sg12 lg13 else fX12_findDirect_70 r24 v1 (((12 : Int32) * y6) + v1) sg12 lg13))))))
set_option maxHeartbeats 4000000 in
set_option maxRecDepth 100000 in
theorem tX12_findDirect_24 (C : Cx p s m args meth c cX12_findDirect 3 RX12 wsX12_findDirect none D vwCl (tysM T) A false []) {so : Sg} {lo : Lg} {r24 : (Int32 × Sg × Lg) → Option (Sg × Lg)} (hr24 : ∀ (v1 : Int32) (sg : Sg) (lg : Lg), r24 (v1, sg, lg) = some (so, lo) → ∀ (H : Heap) (locs : List Loc) (ls : Array Slot), WS ZM D vwCl T ad sg lg A s.heap H locs → lv_has ls 3 [(0, .ref (ad 0)), (1, .int v1)] → W p l e rmX12_findDirect s m args below meth c H locs 0 0 (MQ below (QV ZM D vwCl T (tysM T) A (fun z => ad = z) so lo) args s 0 0 A) (F0 m 24 ls [])) : ∀ (v1 : Int32) (sg : Sg) (lg : Lg), ∀ (H : Heap) (locs : List Loc) (ls : Array Slot), WS ZM D vwCl T ad sg lg A s.heap H locs → lv_has ls 3 [(0, .ref (ad 0)), (1, .int v1)] → fX12_findDirect_24 r24 v1 sg lg = some (so, lo) → W p l e rmX12_findDirect s m args below meth c H locs 0 0 (MQ below (QV ZM D vwCl T (tysM T) A (fun z => ad = z) so lo) args s 0 0 A) (F0 m 24 ls []) := by
  obtain ⟨⟨hx, hb, hml, hown, hts⟩, hr, hlk, hK, hA, hsp⟩ := id C
  intro v1 sg lg H locs ls hw hl h
  unfold fX12_findDirect_24 at h
  refine lv_iload_n hx hb dX12_findDirect_24 rfl (lv_at hl 1 rfl) ?_
  refine lv_aload_n hx hb dX12_findDirect_25 rfl (lv_at hl 0 rfl) ?_
  obtain ⟨y1, sg2, lg3, hq4, h2⟩ := bnd3_some h
  replace h := h2
  clear h2
  refine r_cVi (As := []) (rest := [.int v1]) C hw 0 (by decide) (ci := 12) rfl rfl (mX12_hens l D T ad  H.size sg lg hq4) (cwV 0 hts gX12_findDirect_X12_hens rfl rfl rfl (by decide +kernel) ⟨Nat.le_of_ble_eq_true rfl, Nat.le_of_ble_eq_true rfl⟩) rfl hl.1 rfl (Nat.le_of_ble_eq_true rfl) dX12_findDirect_26 ⟨Nat.le_of_ble_eq_true rfl, Nat.le_of_ble_eq_true rfl⟩ (fun ad' H locs hp hw => ?_)
  subst hp
  refine W.widen (k := 0) (n := 0) (by decide) (by decide) ?_
  refine lv_icmp_ge (tgt := 78) hx hb dX12_findDirect_29 (by decide) (fun c5 => ?_) (fun c5 => ?_)
  · replace h := ite_t h c5
    cases h
    exact r_vret C hw rfl (by decide) (by decide) dX12_findDirect_78
  · replace h := ite_f h c5
    refine lv_aload_n hx hb dX12_findDirect_32 rfl (lv_at hl 0 rfl) ?_
    refine lv_iload_n hx hb dX12_findDirect_33 rfl (lv_at hl 1 rfl) ?_
    obtain ⟨y6, sg7, lg8, hq9, h2⟩ := bnd3_some h
    replace h := h2
    clear h2
    refine r_cVi (As := [.int v1]) (rest := []) C hw 0 (by decide) (ci := 12) rfl rfl (mX12_askedBy l D T ad  H.size v1 sg2 lg3 hq9) (cwV 1 hts gX12_findDirect_X12_askedBy rfl rfl rfl (by decide +kernel) ⟨Nat.le_of_ble_eq_true rfl, Nat.le_of_ble_eq_true rfl⟩) rfl hl.1 rfl (Nat.le_of_ble_eq_true rfl) dX12_findDirect_34 ⟨Nat.le_of_ble_eq_true rfl, Nat.le_of_ble_eq_true rfl⟩ (fun ad' H locs hp hw => ?_)
    subst hp
    refine W.widen (k := 0) (n := 0) (by decide) (by decide) ?_
    refine lv_istore_n (lv' := [(2, .int y6), (0, .ref (ad 0)), (1, .int v1)]) hx hb dX12_findDirect_37 rfl hl (by decide) rfl (fun ls hl => ?_)
    refine lv_iload_n hx hb dX12_findDirect_38 rfl (lv_at hl 0 rfl) ?_
    refine lv_if_lt (tgt := 72) hx hb dX12_findDirect_39 (by decide) (fun c10 => ?_) (fun c10 => ?_)
    · replace h := ite_t h c10
      exact tX12_findDirect_72 C hr24 v1 sg7 lg8 _ _ _ hw (lv_sub hl [1, 2] rfl) h
    · replace h := ite_f h c10
      refine lv_aload_n hx hb dX12_findDirect_42 rfl (lv_at hl 1 rfl) ?_
      refine r_getR (ci := 12) (C := RX12) (U := TX12) (N := 18) hx hb hts kX12_findDirect_iX12 hown hK hw 0 (by decide) rfl rfl 10 (by decide) 6 rfl (hts _ kX12_findDirect_f27) (fun _ h9 => h9) dX12_findDirect_43 ?_
      refine lv_aload_n hx hb dX12_findDirect_46 rfl (lv_at hl 1 rfl) ?_
      refine lv_iload_n hx hb dX12_findDirect_47 rfl (lv_at hl 2 rfl) ?_
      obtain ⟨y11, sg12, lg13, hq14, h2⟩ := bnd3_some h
      replace h := h2
      clear h2
      refine r_cVi (As := [.int v1]) (rest := [.ref (ad 6)]) C hw 0 (by decide) (ci := 12) rfl rfl (mX12_kind l D T ad  H.size v1 sg7 lg8 hq14) (cwV 1 hts gX12_findDirect_X12_kind rfl rfl rfl (by decide +kernel) ⟨Nat.le_of_ble_eq_true rfl, Nat.le_of_ble_eq_true rfl⟩) rfl hl.1 rfl (Nat.le_of_ble_eq_true rfl) dX12_findDirect_48 ⟨Nat.le_of_ble_eq_true rfl, Nat.le_of_ble_eq_true rfl⟩ (fun ad' H locs hp hw => ?_)
      subst hp
      refine W.widen (k := 0) (n := 0) (by decide) (by decide) ?_
      refine lv_iconst (v := (2 : Int32)) hx hb dX12_findDirect_51 (by decide) ?_
      refine lv_icmp_ne (tgt := 64) hx hb dX12_findDirect_52 (by decide) (fun c15 => ?_) (fun c15 => ?_)
      · replace h := ite_f h c15
        refine lv_bipush (v := (12 : Int32)) hx hb dX12_findDirect_64 (by decide) ?_
        refine lv_iload_n hx hb dX12_findDirect_66 rfl (lv_at hl 0 rfl) ?_
        refine lv_imul hx hb dX12_findDirect_67 ?_
        refine lv_iload_n hx hb dX12_findDirect_68 rfl (lv_at hl 2 rfl) ?_
        refine lv_iadd hx hb dX12_findDirect_69 ?_
        exact tX12_findDirect_70 C hr24 v1 (((12 : Int32) * y6) + v1) sg12 lg13 _ _ _ hw (lv_sub hl [1, 2] rfl) h
      · replace h := ite_t h c15
        refine lv_bipush (v := (12 : Int32)) hx hb dX12_findDirect_55 (by decide) ?_
        refine lv_iload_n hx hb dX12_findDirect_57 rfl (lv_at hl 2 rfl) ?_
        refine lv_imul hx hb dX12_findDirect_58 ?_
        refine lv_iload_n hx hb dX12_findDirect_59 rfl (lv_at hl 0 rfl) ?_
        refine lv_iadd hx hb dX12_findDirect_60 ?_
        refine lv_goto (tgt := 70) hx hb dX12_findDirect_61 (by decide) ?_
        exact tX12_findDirect_70 C hr24 v1 (((12 : Int32) * v1) + y6) sg12 lg13 _ _ _ hw (lv_sub hl [1, 2] rfl) h
def LX12_findDirect_24  : (Int32 × Sg × Lg) → Option (Sg × Lg) := loop (fun rec z => fX12_findDirect_24 rec z.1 z.2.1 z.2.2)
theorem TX12_findDirect_24 (C : Cx p s m args meth c cX12_findDirect 3 RX12 wsX12_findDirect none D vwCl (tysM T) A false []) {so : Sg} {lo : Lg}   : ∀ (v1 : Int32) (sg : Sg) (lg : Lg), LX12_findDirect_24 (v1, sg, lg) = some (so, lo) → ∀ (H : Heap) (locs : List Loc) (ls : Array Slot), WS ZM D vwCl T ad sg lg A s.heap H locs → lv_has ls 3 [(0, .ref (ad 0)), (1, .int v1)] → W p l e rmX12_findDirect s m args below meth c H locs 0 0 (MQ below (QV ZM D vwCl T (tysM T) A (fun z => ad = z) so lo) args s 0 0 A) (F0 m 24 ls []) := by
  have key : ∀ z : (Int32 × Sg × Lg), LX12_findDirect_24  z = some (so, lo) → ∀ (H : Heap) (locs : List Loc) (ls : Array Slot), WS ZM D vwCl T ad z.2.1 z.2.2 A s.heap H locs → lv_has ls 3 [(0, .ref (ad 0)), (1, .int z.1)] → W p l e rmX12_findDirect s m args below meth c H locs 0 0 (MQ below (QV ZM D vwCl T (tysM T) A (fun z => ad = z) so lo) args s 0 0 A) (F0 m 24 ls []) := by
    intro z h
    unfold LX12_findDirect_24 at h
    exact loop_ind (fun rec z => fX12_findDirect_24 rec z.1 z.2.1 z.2.2) (y := (so, lo)) (P := fun z => ∀ (H : Heap) (locs : List Loc) (ls : Array Slot), WS ZM D vwCl T ad z.2.1 z.2.2 A s.heap H locs → lv_has ls 3 [(0, .ref (ad 0)), (1, .int z.1)] → W p l e rmX12_findDirect s m args below meth c H locs 0 0 (MQ below (QV ZM D vwCl T (tysM T) A (fun z => ad = z) so lo) args s 0 0 A) (F0 m 24 ls [])) (fun rec hrec z h H locs ls hw hl => tX12_findDirect_24 C  (fun v1 sg lg => hrec (v1, sg, lg)) z.1 z.2.1 z.2.2 H locs ls hw hl h) z h
  exact fun v1 sg lg => key (v1, sg, lg)
def fX12_findDirect_2 (r2 : (Int32 × Sg × Lg) → Option (Sg × Lg)) (v1 : Int32) (sg : Sg) (lg : Lg) : Option (Sg × Lg) :=
  (if (144 : Int32) ≤ v1 then LX12_findDirect_24 ((0 : Int32), sg, lg) else gin v1 144 (lt (up2 sg 6 v1.toNatClampNeg ((0 : Int32) &&& 1)) (fun sg3 => lt (v1 + (1 : Int32)) (fun x4 => r2 (x4, sg3, lg)))))
set_option maxHeartbeats 4000000 in
set_option maxRecDepth 100000 in
theorem tX12_findDirect_2 (C : Cx p s m args meth c cX12_findDirect 3 RX12 wsX12_findDirect none D vwCl (tysM T) A false []) {so : Sg} {lo : Lg} {r2 : (Int32 × Sg × Lg) → Option (Sg × Lg)} (hr2 : ∀ (v1 : Int32) (sg : Sg) (lg : Lg), r2 (v1, sg, lg) = some (so, lo) → ∀ (H : Heap) (locs : List Loc) (ls : Array Slot), WS ZM D vwCl T ad sg lg A s.heap H locs → lv_has ls 3 [(0, .ref (ad 0)), (1, .int v1)] → W p l e rmX12_findDirect s m args below meth c H locs 0 0 (MQ below (QV ZM D vwCl T (tysM T) A (fun z => ad = z) so lo) args s 0 0 A) (F0 m 2 ls [])) : ∀ (v1 : Int32) (sg : Sg) (lg : Lg), ∀ (H : Heap) (locs : List Loc) (ls : Array Slot), WS ZM D vwCl T ad sg lg A s.heap H locs → lv_has ls 3 [(0, .ref (ad 0)), (1, .int v1)] → fX12_findDirect_2 r2 v1 sg lg = some (so, lo) → W p l e rmX12_findDirect s m args below meth c H locs 0 0 (MQ below (QV ZM D vwCl T (tysM T) A (fun z => ad = z) so lo) args s 0 0 A) (F0 m 2 ls []) := by
  obtain ⟨⟨hx, hb, hml, hown, hts⟩, hr, hlk, hK, hA, hsp⟩ := id C
  intro v1 sg lg H locs ls hw hl h
  unfold fX12_findDirect_2 at h
  refine lv_iload_n hx hb dX12_findDirect_2 rfl (lv_at hl 1 rfl) ?_
  refine lv_sipush (v := (144 : Int32)) hx hb dX12_findDirect_3 (by decide) ?_
  refine lv_icmp_ge (tgt := 22) hx hb dX12_findDirect_6 (by decide) (fun c1 => ?_) (fun c1 => ?_)
  · replace h := ite_t h c1
    refine lv_iconst (v := (0 : Int32)) hx hb dX12_findDirect_22 (by decide) ?_
    refine lv_istore_n (lv' := [(1, .int (0 : Int32)), (0, .ref (ad 0))]) hx hb dX12_findDirect_23 rfl hl (by decide) rfl (fun ls hl => ?_)
    exact TX12_findDirect_24 C (0 : Int32) sg lg h _ _ _ hw (lv_sub hl [1, 0] rfl)
  · replace h := ite_f h c1
    refine lv_aload_n hx hb dX12_findDirect_9 rfl (lv_at hl 0 rfl) ?_
    refine r_getR (ci := 12) (C := RX12) (U := TX12) (N := 18) hx hb hts kX12_findDirect_iX12 hown hK hw 0 (by decide) rfl rfl 10 (by decide) 6 rfl (hts _ kX12_findDirect_f27) (fun _ h9 => h9) dX12_findDirect_10 ?_
    refine lv_iload_n hx hb dX12_findDirect_13 rfl (lv_at hl 1 rfl) ?_
    refine lv_iconst (v := (0 : Int32)) hx hb dX12_findDirect_14 (by decide) ?_
    have hi2 := (gin_some h).1
    replace h := (gin_some h).2
    refine r_zast ZM_ok hx hb hK hw 6 1 144 (by decide) rfl rfl rfl hi2 dX12_findDirect_15 (fun H locs sg3 esg3 hw => ?_)
    replace h := lt_get h sg3 esg3
    obtain ⟨x4, ex4⟩ : ∃ z : Int32, z = (v1 + (1 : Int32)) := ⟨_, rfl⟩
    replace h := lt_get h x4 ex4
    refine lv_iinc (v := x4) (lv' := [(1, .int x4), (0, .ref (ad 0))]) hx hb dX12_findDirect_16 hl (k := 1) rfl (by rw [ex4]; rfl) (by decide) rfl (fun ls hl => ?_)
    refine lv_goto (tgt := 2) hx hb dX12_findDirect_19 (by decide) ?_
    exact hr2 x4 sg3 lg h _ _ _ hw (lv_sub hl [1, 0] rfl)
def LX12_findDirect_2  : (Int32 × Sg × Lg) → Option (Sg × Lg) := loop (fun rec z => fX12_findDirect_2 rec z.1 z.2.1 z.2.2)
theorem TX12_findDirect_2 (C : Cx p s m args meth c cX12_findDirect 3 RX12 wsX12_findDirect none D vwCl (tysM T) A false []) {so : Sg} {lo : Lg}   : ∀ (v1 : Int32) (sg : Sg) (lg : Lg), LX12_findDirect_2 (v1, sg, lg) = some (so, lo) → ∀ (H : Heap) (locs : List Loc) (ls : Array Slot), WS ZM D vwCl T ad sg lg A s.heap H locs → lv_has ls 3 [(0, .ref (ad 0)), (1, .int v1)] → W p l e rmX12_findDirect s m args below meth c H locs 0 0 (MQ below (QV ZM D vwCl T (tysM T) A (fun z => ad = z) so lo) args s 0 0 A) (F0 m 2 ls []) := by
  have key : ∀ z : (Int32 × Sg × Lg), LX12_findDirect_2  z = some (so, lo) → ∀ (H : Heap) (locs : List Loc) (ls : Array Slot), WS ZM D vwCl T ad z.2.1 z.2.2 A s.heap H locs → lv_has ls 3 [(0, .ref (ad 0)), (1, .int z.1)] → W p l e rmX12_findDirect s m args below meth c H locs 0 0 (MQ below (QV ZM D vwCl T (tysM T) A (fun z => ad = z) so lo) args s 0 0 A) (F0 m 2 ls []) := by
    intro z h
    unfold LX12_findDirect_2 at h
    exact loop_ind (fun rec z => fX12_findDirect_2 rec z.1 z.2.1 z.2.2) (y := (so, lo)) (P := fun z => ∀ (H : Heap) (locs : List Loc) (ls : Array Slot), WS ZM D vwCl T ad z.2.1 z.2.2 A s.heap H locs → lv_has ls 3 [(0, .ref (ad 0)), (1, .int z.1)] → W p l e rmX12_findDirect s m args below meth c H locs 0 0 (MQ below (QV ZM D vwCl T (tysM T) A (fun z => ad = z) so lo) args s 0 0 A) (F0 m 2 ls [])) (fun rec hrec z h H locs ls hw hl => tX12_findDirect_2 C  (fun v1 sg lg => hrec (v1, sg, lg)) z.1 z.2.1 z.2.2 H locs ls hw hl h) z h
  exact fun v1 sg lg => key (v1, sg, lg)
def fX12_findDirect  (sg : Sg) (lg : Lg) : Option (Sg × Lg) :=
  LX12_findDirect_2 ((0 : Int32), sg, lg)
set_option maxHeartbeats 4000000 in
set_option maxRecDepth 100000 in
theorem tX12_findDirect_0 (C : Cx p s m args meth c cX12_findDirect 3 RX12 wsX12_findDirect none D vwCl (tysM T) A false []) {so : Sg} {lo : Lg}   : ∀ (sg : Sg) (lg : Lg), ∀ (H : Heap) (locs : List Loc) (ls : Array Slot), WS ZM D vwCl T ad sg lg A s.heap H locs → lv_has ls 3 [(0, .ref (ad 0))] → fX12_findDirect sg lg = some (so, lo) → W p l e rmX12_findDirect s m args below meth c H locs 0 0 (MQ below (QV ZM D vwCl T (tysM T) A (fun z => ad = z) so lo) args s 0 0 A) (F0 m 0 ls []) := by
  obtain ⟨⟨hx, hb, hml, hown, hts⟩, hr, hlk, hK, hA, hsp⟩ := id C
  intro sg lg H locs ls hw hl h
  unfold fX12_findDirect at h
  refine lv_iconst (v := (0 : Int32)) hx hb dX12_findDirect_0 (by decide) ?_
  refine lv_istore_n (lv' := [(1, .int (0 : Int32)), (0, .ref (ad 0))]) hx hb dX12_findDirect_1 rfl hl (by decide) rfl (fun ls hl => ?_)
  exact TX12_findDirect_2 C (0 : Int32) sg lg h _ _ _ hw (lv_sub hl [1, 0] rfl)
theorem mX12_findDirect (l : Launch) (D : va_G) (T : Nat → ClassId) (ad : Nat → Nat)  (sz : Nat)   (sg : Sg) (lg : Lg) {so : Sg} {lo : Lg} (h : fX12_findDirect sg lg = some (so, lo)) : Met l yX12_findDirect wsX12_findDirect rmX12_findDirect (PreZ ZM D vwCl T (tysM T) ad sg lg false [] [.ref (ad 0)] sz) (QV ZM D vwCl T (tysM T) (va_A (zwd ZM T ad sg lg) sz) (fun z => ad = z) so lo) 0 0 (va_A (zwd ZM T ad sg lg) sz) :=
  metZ [.ref (ad 0)] sz (by decide) rfl (Nat.le_of_ble_eq_true rfl) (fun p e s m below meth c ls C hw hl => tX12_findDirect_0 C sg lg _ _ _ hw hl h)
-- PeckYardModel.grows(II)Z
def rmX12_grows : Room := { frames := 3, cells := 0, slots := 0, locals := 67 }
theorem kX12_grows_f31 : Cond.fieldLink RX12 31 "PeckYardModel" "block" "[I" ∈ wsX12_grows := by decide +kernel
theorem kX12_grows_iX12 : ∀ w ∈ u_ws RX12 TX12 18, w ∈ wsX12_grows := by decide +kernel
theorem kX12_grows_f27 : Cond.fieldLink RX12 27 "PeckYardModel" "leads" "[Z" ∈ wsX12_grows := by decide +kernel
def fX12_grows_189 (r5 : (Int32 × Int32 × Int32 × Int32 × Sg × Lg) → Option (Int32 × Sg × Lg)) (r17 : (Int32 × Int32 × Int32 × Int32 × Int32 × Sg × Lg) → Option (Int32 × Sg × Lg)) (v1 : Int32) (v2 : Int32) (v3 : Int32) (v4 : Int32) (v5 : Int32) (sg : Sg) (lg : Lg) : Option (Int32 × Sg × Lg) :=
  lt (v5 + (1 : Int32)) (fun x1 => r17 (v1, v2, v3, v4, x1, sg, lg))
set_option maxHeartbeats 4000000 in
set_option maxRecDepth 100000 in
theorem tX12_grows_189 (C : Cx p s m args meth c cX12_grows 8 RX12 wsX12_grows (some .boolean) D vwCl (tysM T) A false []) {ro : Int32} {so : Sg} {lo : Lg} {r5 : (Int32 × Int32 × Int32 × Int32 × Sg × Lg) → Option (Int32 × Sg × Lg)} {r17 : (Int32 × Int32 × Int32 × Int32 × Int32 × Sg × Lg) → Option (Int32 × Sg × Lg)} (hr5 : ∀ (v1 : Int32) (v2 : Int32) (v3 : Int32) (v4 : Int32) (sg : Sg) (lg : Lg), r5 (v1, v2, v3, v4, sg, lg) = some (ro, so, lo) → ∀ (H : Heap) (locs : List Loc) (ls : Array Slot), WS ZM D vwCl T ad sg lg A s.heap H locs → lv_has ls 8 [(0, .ref (ad 0)), (1, .int v1), (2, .int v2), (3, .int v3), (4, .int v4)] → W p l e rmX12_grows s m args below meth c H locs 0 0 (MQ below (QI ZM D vwCl T (tysM T) A (fun z => ad = z) ro so lo) args s 0 0 A) (F0 m 5 ls [])) (hr17 : ∀ (v1 : Int32) (v2 : Int32) (v3 : Int32) (v4 : Int32) (v5 : Int32) (sg : Sg) (lg : Lg), r17 (v1, v2, v3, v4, v5, sg, lg) = some (ro, so, lo) → ∀ (H : Heap) (locs : List Loc) (ls : Array Slot), WS ZM D vwCl T ad sg lg A s.heap H locs → lv_has ls 8 [(0, .ref (ad 0)), (1, .int v1), (2, .int v2), (3, .int v3), (4, .int v4), (5, .int v5)] → W p l e rmX12_grows s m args below meth c H locs 0 0 (MQ below (QI ZM D vwCl T (tysM T) A (fun z => ad = z) ro so lo) args s 0 0 A) (F0 m 17 ls [])) : ∀ (v1 : Int32) (v2 : Int32) (v3 : Int32) (v4 : Int32) (v5 : Int32) (sg : Sg) (lg : Lg), ∀ (H : Heap) (locs : List Loc) (ls : Array Slot), WS ZM D vwCl T ad sg lg A s.heap H locs → lv_has ls 8 [(0, .ref (ad 0)), (1, .int v1), (2, .int v2), (3, .int v3), (4, .int v4), (5, .int v5)] → fX12_grows_189 r5 r17 v1 v2 v3 v4 v5 sg lg = some (ro, so, lo) → W p l e rmX12_grows s m args below meth c H locs 0 0 (MQ below (QI ZM D vwCl T (tysM T) A (fun z => ad = z) ro so lo) args s 0 0 A) (F0 m 189 ls []) := by
  obtain ⟨⟨hx, hb, hml, hown, hts⟩, hr, hlk, hK, hA, hsp⟩ := id C
  intro v1 v2 v3 v4 v5 sg lg H locs ls hw hl h
  unfold fX12_grows_189 at h
  obtain ⟨x1, ex1⟩ : ∃ z : Int32, z = (v5 + (1 : Int32)) := ⟨_, rfl⟩
  replace h := lt_get h x1 ex1
  refine lv_iinc (v := x1) (lv' := [(5, .int x1), (0, .ref (ad 0)), (1, .int v1), (2, .int v2), (3, .int v3), (4, .int v4)]) hx hb dX12_grows_189 hl (k := 5) rfl (by rw [ex1]; rfl) (by decide) rfl (fun ls hl => ?_)
  refine lv_goto (tgt := 17) hx hb dX12_grows_192 (by decide) ?_
  exact hr17 v1 v2 v3 v4 x1 sg lg h _ _ _ hw (lv_sub hl [1, 2, 3, 4, 5, 0] rfl)
def fX12_grows_157 (r5 : (Int32 × Int32 × Int32 × Int32 × Sg × Lg) → Option (Int32 × Sg × Lg)) (r17 : (Int32 × Int32 × Int32 × Int32 × Int32 × Sg × Lg) → Option (Int32 × Sg × Lg)) (v1 : Int32) (v2 : Int32) (v3 : Int32) (v4 : Int32) (v5 : Int32) (sg : Sg) (lg : Lg) : Option (Int32 × Sg × Lg) :=
  lt (((12 : Int32) * v4) + v5) (fun x1 => gin x1 144 ((if (sg 6 x1.toNatClampNeg) = 0 then gin (((12 : Int32) * v4) + v5) 144 (lt (up2 sg 6 (((12 : Int32) * v4) + v5).toNatClampNeg ((1 : Int32) &&& 1)) (fun sg5 => fX12_grows_189 r5 r17 v1 v2 (1 : Int32) v4 v5 sg5 lg)) else fX12_grows_189 r5 r17 v1 v2 v3 v4 v5 sg lg)))
set_option maxHeartbeats 4000000 in
set_option maxRecDepth 100000 in
theorem tX12_grows_157 (C : Cx p s m args meth c cX12_grows 8 RX12 wsX12_grows (some .boolean) D vwCl (tysM T) A false []) {ro : Int32} {so : Sg} {lo : Lg} {r5 : (Int32 × Int32 × Int32 × Int32 × Sg × Lg) → Option (Int32 × Sg × Lg)} {r17 : (Int32 × Int32 × Int32 × Int32 × Int32 × Sg × Lg) → Option (Int32 × Sg × Lg)} (hr5 : ∀ (v1 : Int32) (v2 : Int32) (v3 : Int32) (v4 : Int32) (sg : Sg) (lg : Lg), r5 (v1, v2, v3, v4, sg, lg) = some (ro, so, lo) → ∀ (H : Heap) (locs : List Loc) (ls : Array Slot), WS ZM D vwCl T ad sg lg A s.heap H locs → lv_has ls 8 [(0, .ref (ad 0)), (1, .int v1), (2, .int v2), (3, .int v3), (4, .int v4)] → W p l e rmX12_grows s m args below meth c H locs 0 0 (MQ below (QI ZM D vwCl T (tysM T) A (fun z => ad = z) ro so lo) args s 0 0 A) (F0 m 5 ls [])) (hr17 : ∀ (v1 : Int32) (v2 : Int32) (v3 : Int32) (v4 : Int32) (v5 : Int32) (sg : Sg) (lg : Lg), r17 (v1, v2, v3, v4, v5, sg, lg) = some (ro, so, lo) → ∀ (H : Heap) (locs : List Loc) (ls : Array Slot), WS ZM D vwCl T ad sg lg A s.heap H locs → lv_has ls 8 [(0, .ref (ad 0)), (1, .int v1), (2, .int v2), (3, .int v3), (4, .int v4), (5, .int v5)] → W p l e rmX12_grows s m args below meth c H locs 0 0 (MQ below (QI ZM D vwCl T (tysM T) A (fun z => ad = z) ro so lo) args s 0 0 A) (F0 m 17 ls [])) : ∀ (v1 : Int32) (v2 : Int32) (v3 : Int32) (v4 : Int32) (v5 : Int32) (sg : Sg) (lg : Lg), ∀ (H : Heap) (locs : List Loc) (ls : Array Slot), WS ZM D vwCl T ad sg lg A s.heap H locs → lv_has ls 8 [(0, .ref (ad 0)), (1, .int v1), (2, .int v2), (3, .int v3), (4, .int v4), (5, .int v5)] → fX12_grows_157 r5 r17 v1 v2 v3 v4 v5 sg lg = some (ro, so, lo) → W p l e rmX12_grows s m args below meth c H locs 0 0 (MQ below (QI ZM D vwCl T (tysM T) A (fun z => ad = z) ro so lo) args s 0 0 A) (F0 m 157 ls []) := by
  obtain ⟨⟨hx, hb, hml, hown, hts⟩, hr, hlk, hK, hA, hsp⟩ := id C
  intro v1 v2 v3 v4 v5 sg lg H locs ls hw hl h
  unfold fX12_grows_157 at h
  refine lv_aload_n hx hb dX12_grows_157 rfl (lv_at hl 0 rfl) ?_
  refine r_getR (ci := 12) (C := RX12) (U := TX12) (N := 18) hx hb hts kX12_grows_iX12 hown hK hw 0 (by decide) rfl rfl 10 (by decide) 6 rfl (hts _ kX12_grows_f27) (fun _ h9 => h9) dX12_grows_158 ?_
  refine lv_bipush (v := (12 : Int32)) hx hb dX12_grows_161 (by decide) ?_
  refine lv_iload hx hb dX12_grows_163 (lv_at hl 4 rfl) ?_
  refine lv_imul hx hb dX12_grows_165 ?_
  refine lv_iload hx hb dX12_grows_166 (lv_at hl 5 rfl) ?_
  refine lv_iadd hx hb dX12_grows_168 ?_
  refine lv_topi (fun x1 ex1 => ?_)
  replace h := lt_get h x1 ex1
  have hi2 := (gin_some h).1
  replace h := (gin_some h).2
  refine r_zald hx hb hK hw 6 1 144 (by decide) rfl rfl rfl hi2 dX12_grows_169 ?_
  refine lv_if_ne (tgt := 189) hx hb dX12_grows_170 (by decide) (fun c3 => ?_) (fun c3 => ?_)
  · replace h := ite_f h c3
    exact tX12_grows_189 C hr5 hr17 v1 v2 v3 v4 v5 sg lg _ _ _ hw (lv_sub hl [0, 1, 2, 3, 4, 5] rfl) h
  · replace h := ite_t h c3
    refine lv_aload_n hx hb dX12_grows_173 rfl (lv_at hl 0 rfl) ?_
    refine r_getR (ci := 12) (C := RX12) (U := TX12) (N := 18) hx hb hts kX12_grows_iX12 hown hK hw 0 (by decide) rfl rfl 10 (by decide) 6 rfl (hts _ kX12_grows_f27) (fun _ h9 => h9) dX12_grows_174 ?_
    refine lv_bipush (v := (12 : Int32)) hx hb dX12_grows_177 (by decide) ?_
    refine lv_iload hx hb dX12_grows_179 (lv_at hl 4 rfl) ?_
    refine lv_imul hx hb dX12_grows_181 ?_
    refine lv_iload hx hb dX12_grows_182 (lv_at hl 5 rfl) ?_
    refine lv_iadd hx hb dX12_grows_184 ?_
    refine lv_iconst (v := (1 : Int32)) hx hb dX12_grows_185 (by decide) ?_
    have hi4 := (gin_some h).1
    replace h := (gin_some h).2
    refine r_zast ZM_ok hx hb hK hw 6 1 144 (by decide) rfl rfl rfl hi4 dX12_grows_186 (fun H locs sg5 esg5 hw => ?_)
    replace h := lt_get h sg5 esg5
    refine lv_iconst (v := (1 : Int32)) hx hb dX12_grows_187 (by decide) ?_
    refine lv_istore_n (lv' := [(3, .int (1 : Int32)), (0, .ref (ad 0)), (1, .int v1), (2, .int v2), (4, .int v4), (5, .int v5)]) hx hb dX12_grows_188 rfl hl (by decide) rfl (fun ls hl => ?_)
    exact tX12_grows_189 C hr5 hr17 v1 v2 (1 : Int32) v4 v5 sg5 lg _ _ _ hw (lv_sub hl [1, 2, 3, 0, 4, 5] rfl) h
def fX12_grows_145 (r5 : (Int32 × Int32 × Int32 × Int32 × Sg × Lg) → Option (Int32 × Sg × Lg)) (r17 : (Int32 × Int32 × Int32 × Int32 × Int32 × Sg × Lg) → Option (Int32 × Sg × Lg)) (v1 : Int32) (v2 : Int32) (v3 : Int32) (v4 : Int32) (v5 : Int32) (v6 : Int32) (w0 : Int32) (sg : Sg) (lg : Lg) : Option (Int32 × Sg × Lg) :=
  (if v6 = 0 then (if w0 = 0 then fX12_grows_189 r5 r17 v1 v2 v3 v4 v5 sg lg else fX12_grows_157 r5 r17 v1 v2 v3 v4 v5 sg lg) else fX12_grows_157 r5 r17 v1 v2 v3 v4 v5 sg lg)
set_option maxHeartbeats 4000000 in
set_option maxRecDepth 100000 in
theorem tX12_grows_145 (C : Cx p s m args meth c cX12_grows 8 RX12 wsX12_grows (some .boolean) D vwCl (tysM T) A false []) {ro : Int32} {so : Sg} {lo : Lg} {r5 : (Int32 × Int32 × Int32 × Int32 × Sg × Lg) → Option (Int32 × Sg × Lg)} {r17 : (Int32 × Int32 × Int32 × Int32 × Int32 × Sg × Lg) → Option (Int32 × Sg × Lg)} (hr5 : ∀ (v1 : Int32) (v2 : Int32) (v3 : Int32) (v4 : Int32) (sg : Sg) (lg : Lg), r5 (v1, v2, v3, v4, sg, lg) = some (ro, so, lo) → ∀ (H : Heap) (locs : List Loc) (ls : Array Slot), WS ZM D vwCl T ad sg lg A s.heap H locs → lv_has ls 8 [(0, .ref (ad 0)), (1, .int v1), (2, .int v2), (3, .int v3), (4, .int v4)] → W p l e rmX12_grows s m args below meth c H locs 0 0 (MQ below (QI ZM D vwCl T (tysM T) A (fun z => ad = z) ro so lo) args s 0 0 A) (F0 m 5 ls [])) (hr17 : ∀ (v1 : Int32) (v2 : Int32) (v3 : Int32) (v4 : Int32) (v5 : Int32) (sg : Sg) (lg : Lg), r17 (v1, v2, v3, v4, v5, sg, lg) = some (ro, so, lo) → ∀ (H : Heap) (locs : List Loc) (ls : Array Slot), WS ZM D vwCl T ad sg lg A s.heap H locs → lv_has ls 8 [(0, .ref (ad 0)), (1, .int v1), (2, .int v2), (3, .int v3), (4, .int v4), (5, .int v5)] → W p l e rmX12_grows s m args below meth c H locs 0 0 (MQ below (QI ZM D vwCl T (tysM T) A (fun z => ad = z) ro so lo) args s 0 0 A) (F0 m 17 ls [])) : ∀ (v1 : Int32) (v2 : Int32) (v3 : Int32) (v4 : Int32) (v5 : Int32) (v6 : Int32) (w0 : Int32) (sg : Sg) (lg : Lg), ∀ (H : Heap) (locs : List Loc) (ls : Array Slot), WS ZM D vwCl T ad sg lg A s.heap H locs → lv_has ls 8 [(0, .ref (ad 0)), (1, .int v1), (2, .int v2), (3, .int v3), (4, .int v4), (5, .int v5), (6, .int v6)] → fX12_grows_145 r5 r17 v1 v2 v3 v4 v5 v6 w0 sg lg = some (ro, so, lo) → W p l e rmX12_grows s m args below meth c H locs 0 0 (MQ below (QI ZM D vwCl T (tysM T) A (fun z => ad = z) ro so lo) args s 0 0 A) (F0 m 145 ls [.int w0]) := by
  obtain ⟨⟨hx, hb, hml, hown, hts⟩, hr, hlk, hK, hA, hsp⟩ := id C
  intro v1 v2 v3 v4 v5 v6 w0 sg lg H locs ls hw hl h
  unfold fX12_grows_145 at h
  refine lv_istore (lv' := [(7, .int w0), (0, .ref (ad 0)), (1, .int v1), (2, .int v2), (3, .int v3), (4, .int v4), (5, .int v5), (6, .int v6)]) hx hb dX12_grows_145 hl (by decide) rfl (fun ls hl => ?_)
  refine lv_iload hx hb dX12_grows_147 (lv_at hl 7 rfl) ?_
  refine lv_if_ne (tgt := 157) hx hb dX12_grows_149 (by decide) (fun c1 => ?_) (fun c1 => ?_)
  · replace h := ite_f h c1
    exact tX12_grows_157 C hr5 hr17 v1 v2 v3 v4 v5 sg lg _ _ _ hw (lv_sub hl [1, 2, 3, 4, 5, 6] rfl) h
  · replace h := ite_t h c1
    refine lv_iload hx hb dX12_grows_152 (lv_at hl 0 rfl) ?_
    refine lv_if_eq (tgt := 189) hx hb dX12_grows_154 (by decide) (fun c2 => ?_) (fun c2 => ?_)
    · replace h := ite_t h c2
      exact tX12_grows_189 C hr5 hr17 v1 v2 v3 v4 v5 sg lg _ _ _ hw (lv_sub hl [1, 2, 3, 4, 5, 6] rfl) h
    · replace h := ite_f h c2
      exact tX12_grows_157 C hr5 hr17 v1 v2 v3 v4 v5 sg lg _ _ _ hw (lv_sub hl [1, 2, 3, 4, 5, 6] rfl) h
def fX12_grows_144 (r5 : (Int32 × Int32 × Int32 × Int32 × Sg × Lg) → Option (Int32 × Sg × Lg)) (r17 : (Int32 × Int32 × Int32 × Int32 × Int32 × Sg × Lg) → Option (Int32 × Sg × Lg)) (v1 : Int32) (v2 : Int32) (v3 : Int32) (v4 : Int32) (v5 : Int32) (v6 : Int32) (sg : Sg) (lg : Lg) : Option (Int32 × Sg × Lg) :=
  fX12_grows_145 r5 r17 v1 v2 v3 v4 v5 v6 (0 : Int32) sg lg
set_option maxHeartbeats 4000000 in
set_option maxRecDepth 100000 in
theorem tX12_grows_144 (C : Cx p s m args meth c cX12_grows 8 RX12 wsX12_grows (some .boolean) D vwCl (tysM T) A false []) {ro : Int32} {so : Sg} {lo : Lg} {r5 : (Int32 × Int32 × Int32 × Int32 × Sg × Lg) → Option (Int32 × Sg × Lg)} {r17 : (Int32 × Int32 × Int32 × Int32 × Int32 × Sg × Lg) → Option (Int32 × Sg × Lg)} (hr5 : ∀ (v1 : Int32) (v2 : Int32) (v3 : Int32) (v4 : Int32) (sg : Sg) (lg : Lg), r5 (v1, v2, v3, v4, sg, lg) = some (ro, so, lo) → ∀ (H : Heap) (locs : List Loc) (ls : Array Slot), WS ZM D vwCl T ad sg lg A s.heap H locs → lv_has ls 8 [(0, .ref (ad 0)), (1, .int v1), (2, .int v2), (3, .int v3), (4, .int v4)] → W p l e rmX12_grows s m args below meth c H locs 0 0 (MQ below (QI ZM D vwCl T (tysM T) A (fun z => ad = z) ro so lo) args s 0 0 A) (F0 m 5 ls [])) (hr17 : ∀ (v1 : Int32) (v2 : Int32) (v3 : Int32) (v4 : Int32) (v5 : Int32) (sg : Sg) (lg : Lg), r17 (v1, v2, v3, v4, v5, sg, lg) = some (ro, so, lo) → ∀ (H : Heap) (locs : List Loc) (ls : Array Slot), WS ZM D vwCl T ad sg lg A s.heap H locs → lv_has ls 8 [(0, .ref (ad 0)), (1, .int v1), (2, .int v2), (3, .int v3), (4, .int v4), (5, .int v5)] → W p l e rmX12_grows s m args below meth c H locs 0 0 (MQ below (QI ZM D vwCl T (tysM T) A (fun z => ad = z) ro so lo) args s 0 0 A) (F0 m 17 ls [])) : ∀ (v1 : Int32) (v2 : Int32) (v3 : Int32) (v4 : Int32) (v5 : Int32) (v6 : Int32) (sg : Sg) (lg : Lg), ∀ (H : Heap) (locs : List Loc) (ls : Array Slot), WS ZM D vwCl T ad sg lg A s.heap H locs → lv_has ls 8 [(0, .ref (ad 0)), (1, .int v1), (2, .int v2), (3, .int v3), (4, .int v4), (5, .int v5), (6, .int v6)] → fX12_grows_144 r5 r17 v1 v2 v3 v4 v5 v6 sg lg = some (ro, so, lo) → W p l e rmX12_grows s m args below meth c H locs 0 0 (MQ below (QI ZM D vwCl T (tysM T) A (fun z => ad = z) ro so lo) args s 0 0 A) (F0 m 144 ls []) := by
  obtain ⟨⟨hx, hb, hml, hown, hts⟩, hr, hlk, hK, hA, hsp⟩ := id C
  intro v1 v2 v3 v4 v5 v6 sg lg H locs ls hw hl h
  unfold fX12_grows_144 at h
  refine lv_iconst (v := (0 : Int32)) hx hb dX12_grows_144 (by decide) ?_
  exact tX12_grows_145 C hr5 hr17 v1 v2 v3 v4 v5 v6 (0 : Int32) sg lg _ _ _ hw (lv_sub hl [0, 1, 2, 3, 4, 5, 6] rfl) h
def fX12_grows_73 (r5 : (Int32 × Int32 × Int32 × Int32 × Sg × Lg) → Option (Int32 × Sg × Lg)) (r17 : (Int32 × Int32 × Int32 × Int32 × Int32 × Sg × Lg) → Option (Int32 × Sg × Lg)) (v1 : Int32) (v2 : Int32) (v3 : Int32) (v4 : Int32) (v5 : Int32) (w0 : Int32) (sg : Sg) (lg : Lg) : Option (Int32 × Sg × Lg) :=
  gin v1 12 (gin v2 12 ((if (sg 7 v1.toNatClampNeg) = (sg 7 v2.toNatClampNeg) then fX12_grows_144 r5 r17 v1 v2 v3 v4 v5 w0 sg lg else bnd3 (fX12_counts v4 sg lg) (fun y4 sg5 lg6 => (if y4 = 0 then fX12_grows_144 r5 r17 v1 v2 v3 v4 v5 w0 sg5 lg6 else bnd3 (fX12_counts v5 sg5 lg6) (fun y9 sg10 lg11 => (if y9 = 0 then fX12_grows_144 r5 r17 v1 v2 v3 v4 v5 w0 sg10 lg11 else gin v4 12 (gin v1 12 ((if (sg10 7 v4.toNatClampNeg) = (sg10 7 v1.toNatClampNeg) then gin v5 12 (gin v2 12 ((if (sg10 7 v5.toNatClampNeg) = (sg10 7 v2.toNatClampNeg) then fX12_grows_145 r5 r17 v1 v2 v3 v4 v5 w0 (1 : Int32) sg10 lg11 else fX12_grows_144 r5 r17 v1 v2 v3 v4 v5 w0 sg10 lg11))) else fX12_grows_144 r5 r17 v1 v2 v3 v4 v5 w0 sg10 lg11))))))))))
set_option maxHeartbeats 4000000 in
set_option maxRecDepth 100000 in
theorem tX12_grows_73 (C : Cx p s m args meth c cX12_grows 8 RX12 wsX12_grows (some .boolean) D vwCl (tysM T) A false []) {ro : Int32} {so : Sg} {lo : Lg} {r5 : (Int32 × Int32 × Int32 × Int32 × Sg × Lg) → Option (Int32 × Sg × Lg)} {r17 : (Int32 × Int32 × Int32 × Int32 × Int32 × Sg × Lg) → Option (Int32 × Sg × Lg)} (hr5 : ∀ (v1 : Int32) (v2 : Int32) (v3 : Int32) (v4 : Int32) (sg : Sg) (lg : Lg), r5 (v1, v2, v3, v4, sg, lg) = some (ro, so, lo) → ∀ (H : Heap) (locs : List Loc) (ls : Array Slot), WS ZM D vwCl T ad sg lg A s.heap H locs → lv_has ls 8 [(0, .ref (ad 0)), (1, .int v1), (2, .int v2), (3, .int v3), (4, .int v4)] → W p l e rmX12_grows s m args below meth c H locs 0 0 (MQ below (QI ZM D vwCl T (tysM T) A (fun z => ad = z) ro so lo) args s 0 0 A) (F0 m 5 ls [])) (hr17 : ∀ (v1 : Int32) (v2 : Int32) (v3 : Int32) (v4 : Int32) (v5 : Int32) (sg : Sg) (lg : Lg), r17 (v1, v2, v3, v4, v5, sg, lg) = some (ro, so, lo) → ∀ (H : Heap) (locs : List Loc) (ls : Array Slot), WS ZM D vwCl T ad sg lg A s.heap H locs → lv_has ls 8 [(0, .ref (ad 0)), (1, .int v1), (2, .int v2), (3, .int v3), (4, .int v4), (5, .int v5)] → W p l e rmX12_grows s m args below meth c H locs 0 0 (MQ below (QI ZM D vwCl T (tysM T) A (fun z => ad = z) ro so lo) args s 0 0 A) (F0 m 17 ls [])) : ∀ (v1 : Int32) (v2 : Int32) (v3 : Int32) (v4 : Int32) (v5 : Int32) (w0 : Int32) (sg : Sg) (lg : Lg), ∀ (H : Heap) (locs : List Loc) (ls : Array Slot), WS ZM D vwCl T ad sg lg A s.heap H locs → lv_has ls 8 [(0, .ref (ad 0)), (1, .int v1), (2, .int v2), (3, .int v3), (4, .int v4), (5, .int v5)] → fX12_grows_73 r5 r17 v1 v2 v3 v4 v5 w0 sg lg = some (ro, so, lo) → W p l e rmX12_grows s m args below meth c H locs 0 0 (MQ below (QI ZM D vwCl T (tysM T) A (fun z => ad = z) ro so lo) args s 0 0 A) (F0 m 73 ls [.int w0]) := by
  obtain ⟨⟨hx, hb, hml, hown, hts⟩, hr, hlk, hK, hA, hsp⟩ := id C
  intro v1 v2 v3 v4 v5 w0 sg lg H locs ls hw hl h
  unfold fX12_grows_73 at h
  refine lv_istore (lv' := [(6, .int w0), (0, .ref (ad 0)), (1, .int v1), (2, .int v2), (3, .int v3), (4, .int v4), (5, .int v5)]) hx hb dX12_grows_73 hl (by decide) rfl (fun ls hl => ?_)
  refine lv_aload_n hx hb dX12_grows_75 rfl (lv_at hl 1 rfl) ?_
  refine r_getR (ci := 12) (C := RX12) (U := TX12) (N := 18) hx hb hts kX12_grows_iX12 hown hK hw 0 (by decide) rfl rfl 11 (by decide) 7 rfl (hts _ kX12_grows_f31) (fun _ h9 => h9) dX12_grows_76 ?_
  refine lv_iload_n hx hb dX12_grows_79 rfl (lv_at hl 2 rfl) ?_
  have hi1 := (gin_some h).1
  replace h := (gin_some h).2
  refine r_iald hx hb hK hw 7 0 12 (by decide) rfl rfl rfl hi1 dX12_grows_80 ?_
  refine lv_aload_n hx hb dX12_grows_81 rfl (lv_at hl 1 rfl) ?_
  refine r_getR (ci := 12) (C := RX12) (U := TX12) (N := 18) hx hb hts kX12_grows_iX12 hown hK hw 0 (by decide) rfl rfl 11 (by decide) 7 rfl (hts _ kX12_grows_f31) (fun _ h9 => h9) dX12_grows_82 ?_
  refine lv_iload_n hx hb dX12_grows_85 rfl (lv_at hl 3 rfl) ?_
  have hi2 := (gin_some h).1
  replace h := (gin_some h).2
  refine r_iald hx hb hK hw 7 0 12 (by decide) rfl rfl rfl hi2 dX12_grows_86 ?_
  refine lv_icmp_eq (tgt := 144) hx hb dX12_grows_87 (by decide) (fun c3 => ?_) (fun c3 => ?_)
  · replace h := ite_t h c3
    exact tX12_grows_144 C hr5 hr17 v1 v2 v3 v4 v5 w0 sg lg _ _ _ hw (lv_sub hl [1, 2, 3, 4, 5, 6, 0] rfl) h
  · replace h := ite_f h c3
    refine lv_aload_n hx hb dX12_grows_90 rfl (lv_at hl 1 rfl) ?_
    refine lv_iload hx hb dX12_grows_91 (lv_at hl 5 rfl) ?_
    obtain ⟨y4, sg5, lg6, hq7, h2⟩ := bnd3_some h
    replace h := h2
    clear h2
    refine r_cVi (As := [.int v4]) (rest := []) C hw 0 (by decide) (ci := 12) rfl rfl (mX12_counts l D T ad  H.size v4 sg lg hq7) (cwV 1 hts gX12_grows_X12_counts rfl rfl rfl (by decide +kernel) ⟨Nat.le_of_ble_eq_true rfl, Nat.le_of_ble_eq_true rfl⟩) rfl hl.1 rfl (Nat.le_of_ble_eq_true rfl) dX12_grows_93 ⟨Nat.le_of_ble_eq_true rfl, Nat.le_of_ble_eq_true rfl⟩ (fun ad' H locs hp hw => ?_)
    subst hp
    refine W.widen (k := 0) (n := 0) (by decide) (by decide) ?_
    refine lv_if_eq (tgt := 144) hx hb dX12_grows_96 (by decide) (fun c8 => ?_) (fun c8 => ?_)
    · replace h := ite_t h c8
      exact tX12_grows_144 C hr5 hr17 v1 v2 v3 v4 v5 w0 sg5 lg6 _ _ _ hw (lv_sub hl [1, 2, 3, 4, 5, 6, 0] rfl) h
    · replace h := ite_f h c8
      refine lv_aload_n hx hb dX12_grows_99 rfl (lv_at hl 1 rfl) ?_
      refine lv_iload hx hb dX12_grows_100 (lv_at hl 6 rfl) ?_
      obtain ⟨y9, sg10, lg11, hq12, h2⟩ := bnd3_some h
      replace h := h2
      clear h2
      refine r_cVi (As := [.int v5]) (rest := []) C hw 0 (by decide) (ci := 12) rfl rfl (mX12_counts l D T ad  H.size v5 sg5 lg6 hq12) (cwV 1 hts gX12_grows_X12_counts rfl rfl rfl (by decide +kernel) ⟨Nat.le_of_ble_eq_true rfl, Nat.le_of_ble_eq_true rfl⟩) rfl hl.1 rfl (Nat.le_of_ble_eq_true rfl) dX12_grows_102 ⟨Nat.le_of_ble_eq_true rfl, Nat.le_of_ble_eq_true rfl⟩ (fun ad' H locs hp hw => ?_)
      subst hp
      refine W.widen (k := 0) (n := 0) (by decide) (by decide) ?_
      refine lv_if_eq (tgt := 144) hx hb dX12_grows_105 (by decide) (fun c13 => ?_) (fun c13 => ?_)
      · replace h := ite_t h c13
        exact tX12_grows_144 C hr5 hr17 v1 v2 v3 v4 v5 w0 sg10 lg11 _ _ _ hw (lv_sub hl [1, 2, 3, 4, 5, 6, 0] rfl) h
      · replace h := ite_f h c13
        refine lv_aload_n hx hb dX12_grows_108 rfl (lv_at hl 1 rfl) ?_
        refine r_getR (ci := 12) (C := RX12) (U := TX12) (N := 18) hx hb hts kX12_grows_iX12 hown hK hw 0 (by decide) rfl rfl 11 (by decide) 7 rfl (hts _ kX12_grows_f31) (fun _ h9 => h9) dX12_grows_109 ?_
        refine lv_iload hx hb dX12_grows_112 (lv_at hl 5 rfl) ?_
        have hi14 := (gin_some h).1
        replace h := (gin_some h).2
        refine r_iald hx hb hK hw 7 0 12 (by decide) rfl rfl rfl hi14 dX12_grows_114 ?_
        refine lv_aload_n hx hb dX12_grows_115 rfl (lv_at hl 1 rfl) ?_
        refine r_getR (ci := 12) (C := RX12) (U := TX12) (N := 18) hx hb hts kX12_grows_iX12 hown hK hw 0 (by decide) rfl rfl 11 (by decide) 7 rfl (hts _ kX12_grows_f31) (fun _ h9 => h9) dX12_grows_116 ?_
        refine lv_iload_n hx hb dX12_grows_119 rfl (lv_at hl 2 rfl) ?_
        have hi15 := (gin_some h).1
        replace h := (gin_some h).2
        refine r_iald hx hb hK hw 7 0 12 (by decide) rfl rfl rfl hi15 dX12_grows_120 ?_
        refine lv_icmp_ne (tgt := 144) hx hb dX12_grows_121 (by decide) (fun c16 => ?_) (fun c16 => ?_)
        · replace h := ite_f h c16
          exact tX12_grows_144 C hr5 hr17 v1 v2 v3 v4 v5 w0 sg10 lg11 _ _ _ hw (lv_sub hl [1, 2, 3, 4, 5, 6, 0] rfl) h
        · replace h := ite_t h c16
          refine lv_aload_n hx hb dX12_grows_124 rfl (lv_at hl 1 rfl) ?_
          refine r_getR (ci := 12) (C := RX12) (U := TX12) (N := 18) hx hb hts kX12_grows_iX12 hown hK hw 0 (by decide) rfl rfl 11 (by decide) 7 rfl (hts _ kX12_grows_f31) (fun _ h9 => h9) dX12_grows_125 ?_
          refine lv_iload hx hb dX12_grows_128 (lv_at hl 6 rfl) ?_
          have hi17 := (gin_some h).1
          replace h := (gin_some h).2
          refine r_iald hx hb hK hw 7 0 12 (by decide) rfl rfl rfl hi17 dX12_grows_130 ?_
          refine lv_aload_n hx hb dX12_grows_131 rfl (lv_at hl 1 rfl) ?_
          refine r_getR (ci := 12) (C := RX12) (U := TX12) (N := 18) hx hb hts kX12_grows_iX12 hown hK hw 0 (by decide) rfl rfl 11 (by decide) 7 rfl (hts _ kX12_grows_f31) (fun _ h9 => h9) dX12_grows_132 ?_
          refine lv_iload_n hx hb dX12_grows_135 rfl (lv_at hl 3 rfl) ?_
          have hi18 := (gin_some h).1
          replace h := (gin_some h).2
          refine r_iald hx hb hK hw 7 0 12 (by decide) rfl rfl rfl hi18 dX12_grows_136 ?_
          refine lv_icmp_ne (tgt := 144) hx hb dX12_grows_137 (by decide) (fun c19 => ?_) (fun c19 => ?_)
          · replace h := ite_f h c19
            exact tX12_grows_144 C hr5 hr17 v1 v2 v3 v4 v5 w0 sg10 lg11 _ _ _ hw (lv_sub hl [1, 2, 3, 4, 5, 6, 0] rfl) h
          · replace h := ite_t h c19
            refine lv_iconst (v := (1 : Int32)) hx hb dX12_grows_140 (by decide) ?_
            refine lv_goto (tgt := 145) hx hb dX12_grows_141 (by decide) ?_
            exact tX12_grows_145 C hr5 hr17 v1 v2 v3 v4 v5 w0 (1 : Int32) sg10 lg11 _ _ _ hw (lv_sub hl [1, 2, 3, 4, 5, 6, 0] rfl) h
def fX12_grows_72 (r5 : (Int32 × Int32 × Int32 × Int32 × Sg × Lg) → Option (Int32 × Sg × Lg)) (r17 : (Int32 × Int32 × Int32 × Int32 × Int32 × Sg × Lg) → Option (Int32 × Sg × Lg)) (v1 : Int32) (v2 : Int32) (v3 : Int32) (v4 : Int32) (v5 : Int32) (sg : Sg) (lg : Lg) : Option (Int32 × Sg × Lg) :=
  fX12_grows_73 r5 r17 v1 v2 v3 v4 v5 (0 : Int32) sg lg
set_option maxHeartbeats 4000000 in
set_option maxRecDepth 100000 in
theorem tX12_grows_72 (C : Cx p s m args meth c cX12_grows 8 RX12 wsX12_grows (some .boolean) D vwCl (tysM T) A false []) {ro : Int32} {so : Sg} {lo : Lg} {r5 : (Int32 × Int32 × Int32 × Int32 × Sg × Lg) → Option (Int32 × Sg × Lg)} {r17 : (Int32 × Int32 × Int32 × Int32 × Int32 × Sg × Lg) → Option (Int32 × Sg × Lg)} (hr5 : ∀ (v1 : Int32) (v2 : Int32) (v3 : Int32) (v4 : Int32) (sg : Sg) (lg : Lg), r5 (v1, v2, v3, v4, sg, lg) = some (ro, so, lo) → ∀ (H : Heap) (locs : List Loc) (ls : Array Slot), WS ZM D vwCl T ad sg lg A s.heap H locs → lv_has ls 8 [(0, .ref (ad 0)), (1, .int v1), (2, .int v2), (3, .int v3), (4, .int v4)] → W p l e rmX12_grows s m args below meth c H locs 0 0 (MQ below (QI ZM D vwCl T (tysM T) A (fun z => ad = z) ro so lo) args s 0 0 A) (F0 m 5 ls [])) (hr17 : ∀ (v1 : Int32) (v2 : Int32) (v3 : Int32) (v4 : Int32) (v5 : Int32) (sg : Sg) (lg : Lg), r17 (v1, v2, v3, v4, v5, sg, lg) = some (ro, so, lo) → ∀ (H : Heap) (locs : List Loc) (ls : Array Slot), WS ZM D vwCl T ad sg lg A s.heap H locs → lv_has ls 8 [(0, .ref (ad 0)), (1, .int v1), (2, .int v2), (3, .int v3), (4, .int v4), (5, .int v5)] → W p l e rmX12_grows s m args below meth c H locs 0 0 (MQ below (QI ZM D vwCl T (tysM T) A (fun z => ad = z) ro so lo) args s 0 0 A) (F0 m 17 ls [])) : ∀ (v1 : Int32) (v2 : Int32) (v3 : Int32) (v4 : Int32) (v5 : Int32) (sg : Sg) (lg : Lg), ∀ (H : Heap) (locs : List Loc) (ls : Array Slot), WS ZM D vwCl T ad sg lg A s.heap H locs → lv_has ls 8 [(0, .ref (ad 0)), (1, .int v1), (2, .int v2), (3, .int v3), (4, .int v4), (5, .int v5)] → fX12_grows_72 r5 r17 v1 v2 v3 v4 v5 sg lg = some (ro, so, lo) → W p l e rmX12_grows s m args below meth c H locs 0 0 (MQ below (QI ZM D vwCl T (tysM T) A (fun z => ad = z) ro so lo) args s 0 0 A) (F0 m 72 ls []) := by
  obtain ⟨⟨hx, hb, hml, hown, hts⟩, hr, hlk, hK, hA, hsp⟩ := id C
  intro v1 v2 v3 v4 v5 sg lg H locs ls hw hl h
  unfold fX12_grows_72 at h
  refine lv_iconst (v := (0 : Int32)) hx hb dX12_grows_72 (by decide) ?_
  exact tX12_grows_73 C hr5 hr17 v1 v2 v3 v4 v5 (0 : Int32) sg lg _ _ _ hw (lv_sub hl [0, 1, 2, 3, 4, 5] rfl) h
def fX12_grows_68 (r5 : (Int32 × Int32 × Int32 × Int32 × Sg × Lg) → Option (Int32 × Sg × Lg)) (r17 : (Int32 × Int32 × Int32 × Int32 × Int32 × Sg × Lg) → Option (Int32 × Sg × Lg)) (v1 : Int32) (v2 : Int32) (v3 : Int32) (v4 : Int32) (v5 : Int32) (sg : Sg) (lg : Lg) : Option (Int32 × Sg × Lg) :=
  fX12_grows_73 r5 r17 v1 v2 v3 v4 v5 (1 : Int32) sg lg
set_option maxHeartbeats 4000000 in
set_option maxRecDepth 100000 in
theorem tX12_grows_68 (C : Cx p s m args meth c cX12_grows 8 RX12 wsX12_grows (some .boolean) D vwCl (tysM T) A false []) {ro : Int32} {so : Sg} {lo : Lg} {r5 : (Int32 × Int32 × Int32 × Int32 × Sg × Lg) → Option (Int32 × Sg × Lg)} {r17 : (Int32 × Int32 × Int32 × Int32 × Int32 × Sg × Lg) → Option (Int32 × Sg × Lg)} (hr5 : ∀ (v1 : Int32) (v2 : Int32) (v3 : Int32) (v4 : Int32) (sg : Sg) (lg : Lg), r5 (v1, v2, v3, v4, sg, lg) = some (ro, so, lo) → ∀ (H : Heap) (locs : List Loc) (ls : Array Slot), WS ZM D vwCl T ad sg lg A s.heap H locs → lv_has ls 8 [(0, .ref (ad 0)), (1, .int v1), (2, .int v2), (3, .int v3), (4, .int v4)] → W p l e rmX12_grows s m args below meth c H locs 0 0 (MQ below (QI ZM D vwCl T (tysM T) A (fun z => ad = z) ro so lo) args s 0 0 A) (F0 m 5 ls [])) (hr17 : ∀ (v1 : Int32) (v2 : Int32) (v3 : Int32) (v4 : Int32) (v5 : Int32) (sg : Sg) (lg : Lg), r17 (v1, v2, v3, v4, v5, sg, lg) = some (ro, so, lo) → ∀ (H : Heap) (locs : List Loc) (ls : Array Slot), WS ZM D vwCl T ad sg lg A s.heap H locs → lv_has ls 8 [(0, .ref (ad 0)), (1, .int v1), (2, .int v2), (3, .int v3), (4, .int v4), (5, .int v5)] → W p l e rmX12_grows s m args below meth c H locs 0 0 (MQ below (QI ZM D vwCl T (tysM T) A (fun z => ad = z) ro so lo) args s 0 0 A) (F0 m 17 ls [])) : ∀ (v1 : Int32) (v2 : Int32) (v3 : Int32) (v4 : Int32) (v5 : Int32) (sg : Sg) (lg : Lg), ∀ (H : Heap) (locs : List Loc) (ls : Array Slot), WS ZM D vwCl T ad sg lg A s.heap H locs → lv_has ls 8 [(0, .ref (ad 0)), (1, .int v1), (2, .int v2), (3, .int v3), (4, .int v4), (5, .int v5)] → fX12_grows_68 r5 r17 v1 v2 v3 v4 v5 sg lg = some (ro, so, lo) → W p l e rmX12_grows s m args below meth c H locs 0 0 (MQ below (QI ZM D vwCl T (tysM T) A (fun z => ad = z) ro so lo) args s 0 0 A) (F0 m 68 ls []) := by
  obtain ⟨⟨hx, hb, hml, hown, hts⟩, hr, hlk, hK, hA, hsp⟩ := id C
  intro v1 v2 v3 v4 v5 sg lg H locs ls hw hl h
  unfold fX12_grows_68 at h
  refine lv_iconst (v := (1 : Int32)) hx hb dX12_grows_68 (by decide) ?_
  refine lv_goto (tgt := 73) hx hb dX12_grows_69 (by decide) ?_
  exact tX12_grows_73 C hr5 hr17 v1 v2 v3 v4 v5 (1 : Int32) sg lg _ _ _ hw (lv_sub hl [0, 1, 2, 3, 4, 5] rfl) h
def fX12_grows_47 (r5 : (Int32 × Int32 × Int32 × Int32 × Sg × Lg) → Option (Int32 × Sg × Lg)) (r17 : (Int32 × Int32 × Int32 × Int32 × Int32 × Sg × Lg) → Option (Int32 × Sg × Lg)) (v1 : Int32) (v2 : Int32) (v3 : Int32) (v4 : Int32) (v5 : Int32) (sg : Sg) (lg : Lg) : Option (Int32 × Sg × Lg) :=
  (if v5 = v2 then lt (((12 : Int32) * v4) + v1) (fun x2 => gin x2 144 ((if (sg 6 x2.toNatClampNeg) = 0 then fX12_grows_72 r5 r17 v1 v2 v3 v4 v5 sg lg else fX12_grows_68 r5 r17 v1 v2 v3 v4 v5 sg lg))) else fX12_grows_72 r5 r17 v1 v2 v3 v4 v5 sg lg)
set_option maxHeartbeats 4000000 in
set_option maxRecDepth 100000 in
theorem tX12_grows_47 (C : Cx p s m args meth c cX12_grows 8 RX12 wsX12_grows (some .boolean) D vwCl (tysM T) A false []) {ro : Int32} {so : Sg} {lo : Lg} {r5 : (Int32 × Int32 × Int32 × Int32 × Sg × Lg) → Option (Int32 × Sg × Lg)} {r17 : (Int32 × Int32 × Int32 × Int32 × Int32 × Sg × Lg) → Option (Int32 × Sg × Lg)} (hr5 : ∀ (v1 : Int32) (v2 : Int32) (v3 : Int32) (v4 : Int32) (sg : Sg) (lg : Lg), r5 (v1, v2, v3, v4, sg, lg) = some (ro, so, lo) → ∀ (H : Heap) (locs : List Loc) (ls : Array Slot), WS ZM D vwCl T ad sg lg A s.heap H locs → lv_has ls 8 [(0, .ref (ad 0)), (1, .int v1), (2, .int v2), (3, .int v3), (4, .int v4)] → W p l e rmX12_grows s m args below meth c H locs 0 0 (MQ below (QI ZM D vwCl T (tysM T) A (fun z => ad = z) ro so lo) args s 0 0 A) (F0 m 5 ls [])) (hr17 : ∀ (v1 : Int32) (v2 : Int32) (v3 : Int32) (v4 : Int32) (v5 : Int32) (sg : Sg) (lg : Lg), r17 (v1, v2, v3, v4, v5, sg, lg) = some (ro, so, lo) → ∀ (H : Heap) (locs : List Loc) (ls : Array Slot), WS ZM D vwCl T ad sg lg A s.heap H locs → lv_has ls 8 [(0, .ref (ad 0)), (1, .int v1), (2, .int v2), (3, .int v3), (4, .int v4), (5, .int v5)] → W p l e rmX12_grows s m args below meth c H locs 0 0 (MQ below (QI ZM D vwCl T (tysM T) A (fun z => ad = z) ro so lo) args s 0 0 A) (F0 m 17 ls [])) : ∀ (v1 : Int32) (v2 : Int32) (v3 : Int32) (v4 : Int32) (v5 : Int32) (sg : Sg) (lg : Lg), ∀ (H : Heap) (locs : List Loc) (ls : Array Slot), WS ZM D vwCl T ad sg lg A s.heap H locs → lv_has ls 8 [(0, .ref (ad 0)), (1, .int v1), (2, .int v2), (3, .int v3), (4, .int v4), (5, .int v5)] → fX12_grows_47 r5 r17 v1 v2 v3 v4 v5 sg lg = some (ro, so, lo) → W p l e rmX12_grows s m args below meth c H locs 0 0 (MQ below (QI ZM D vwCl T (tysM T) A (fun z => ad = z) ro so lo) args s 0 0 A) (F0 m 47 ls []) := by
  obtain ⟨⟨hx, hb, hml, hown, hts⟩, hr, hlk, hK, hA, hsp⟩ := id C
  intro v1 v2 v3 v4 v5 sg lg H locs ls hw hl h
  unfold fX12_grows_47 at h
  refine lv_iload hx hb dX12_grows_47 (lv_at hl 5 rfl) ?_
  refine lv_iload_n hx hb dX12_grows_49 rfl (lv_at hl 2 rfl) ?_
  refine lv_icmp_ne (tgt := 72) hx hb dX12_grows_50 (by decide) (fun c1 => ?_) (fun c1 => ?_)
  · replace h := ite_f h c1
    exact tX12_grows_72 C hr5 hr17 v1 v2 v3 v4 v5 sg lg _ _ _ hw (lv_sub hl [0, 1, 2, 3, 4, 5] rfl) h
  · replace h := ite_t h c1
    refine lv_aload_n hx hb dX12_grows_53 rfl (lv_at hl 0 rfl) ?_
    refine r_getR (ci := 12) (C := RX12) (U := TX12) (N := 18) hx hb hts kX12_grows_iX12 hown hK hw 0 (by decide) rfl rfl 10 (by decide) 6 rfl (hts _ kX12_grows_f27) (fun _ h9 => h9) dX12_grows_54 ?_
    refine lv_bipush (v := (12 : Int32)) hx hb dX12_grows_57 (by decide) ?_
    refine lv_iload hx hb dX12_grows_59 (lv_at hl 4 rfl) ?_
    refine lv_imul hx hb dX12_grows_61 ?_
    refine lv_iload_n hx hb dX12_grows_62 rfl (lv_at hl 1 rfl) ?_
    refine lv_iadd hx hb dX12_grows_63 ?_
    refine lv_topi (fun x2 ex2 => ?_)
    replace h := lt_get h x2 ex2
    have hi3 := (gin_some h).1
    replace h := (gin_some h).2
    refine r_zald hx hb hK hw 6 1 144 (by decide) rfl rfl rfl hi3 dX12_grows_64 ?_
    refine lv_if_eq (tgt := 72) hx hb dX12_grows_65 (by decide) (fun c4 => ?_) (fun c4 => ?_)
    · replace h := ite_t h c4
      exact tX12_grows_72 C hr5 hr17 v1 v2 v3 v4 v5 sg lg _ _ _ hw (lv_sub hl [0, 1, 2, 3, 4, 5] rfl) h
    · replace h := ite_f h c4
      exact tX12_grows_68 C hr5 hr17 v1 v2 v3 v4 v5 sg lg _ _ _ hw (lv_sub hl [0, 1, 2, 3, 4, 5] rfl) h
def fX12_grows_17 (r5 : (Int32 × Int32 × Int32 × Int32 × Sg × Lg) → Option (Int32 × Sg × Lg)) (r17 : (Int32 × Int32 × Int32 × Int32 × Int32 × Sg × Lg) → Option (Int32 × Sg × Lg)) (v1 : Int32) (v2 : Int32) (v3 : Int32) (v4 : Int32) (v5 : Int32) (sg : Sg) (lg : Lg) : Option (Int32 × Sg × Lg) :=
  bnd3 (fX12_hens sg lg) (fun y1 sg2 lg3 => (if y1 ≤ v5 then lt (v4 + (1 : Int32)) (fun x6 => r5 (v1, v2, v3, x6, sg2, lg3)) else (if v4 = v1 then lt (((12 : Int32) * v2) + v5) (fun x8 => gin x8 144 ((if (sg2 6 x8.toNatClampNeg) = 0 then fX12_grows_47 r5 r17 v1 v2 v3 v4 v5 sg2 lg3 else fX12_grows_68 r5 r17 v1 v2 v3 v4 v5 sg2 lg3))) else fX12_grows_47 r5 r17 v1 v2 v3 v4 v5 sg2 lg3)))
set_option maxHeartbeats 4000000 in
set_option maxRecDepth 100000 in
theorem tX12_grows_17 (C : Cx p s m args meth c cX12_grows 8 RX12 wsX12_grows (some .boolean) D vwCl (tysM T) A false []) {ro : Int32} {so : Sg} {lo : Lg} {r5 : (Int32 × Int32 × Int32 × Int32 × Sg × Lg) → Option (Int32 × Sg × Lg)} {r17 : (Int32 × Int32 × Int32 × Int32 × Int32 × Sg × Lg) → Option (Int32 × Sg × Lg)} (hr5 : ∀ (v1 : Int32) (v2 : Int32) (v3 : Int32) (v4 : Int32) (sg : Sg) (lg : Lg), r5 (v1, v2, v3, v4, sg, lg) = some (ro, so, lo) → ∀ (H : Heap) (locs : List Loc) (ls : Array Slot), WS ZM D vwCl T ad sg lg A s.heap H locs → lv_has ls 8 [(0, .ref (ad 0)), (1, .int v1), (2, .int v2), (3, .int v3), (4, .int v4)] → W p l e rmX12_grows s m args below meth c H locs 0 0 (MQ below (QI ZM D vwCl T (tysM T) A (fun z => ad = z) ro so lo) args s 0 0 A) (F0 m 5 ls [])) (hr17 : ∀ (v1 : Int32) (v2 : Int32) (v3 : Int32) (v4 : Int32) (v5 : Int32) (sg : Sg) (lg : Lg), r17 (v1, v2, v3, v4, v5, sg, lg) = some (ro, so, lo) → ∀ (H : Heap) (locs : List Loc) (ls : Array Slot), WS ZM D vwCl T ad sg lg A s.heap H locs → lv_has ls 8 [(0, .ref (ad 0)), (1, .int v1), (2, .int v2), (3, .int v3), (4, .int v4), (5, .int v5)] → W p l e rmX12_grows s m args below meth c H locs 0 0 (MQ below (QI ZM D vwCl T (tysM T) A (fun z => ad = z) ro so lo) args s 0 0 A) (F0 m 17 ls [])) : ∀ (v1 : Int32) (v2 : Int32) (v3 : Int32) (v4 : Int32) (v5 : Int32) (sg : Sg) (lg : Lg), ∀ (H : Heap) (locs : List Loc) (ls : Array Slot), WS ZM D vwCl T ad sg lg A s.heap H locs → lv_has ls 8 [(0, .ref (ad 0)), (1, .int v1), (2, .int v2), (3, .int v3), (4, .int v4), (5, .int v5)] → fX12_grows_17 r5 r17 v1 v2 v3 v4 v5 sg lg = some (ro, so, lo) → W p l e rmX12_grows s m args below meth c H locs 0 0 (MQ below (QI ZM D vwCl T (tysM T) A (fun z => ad = z) ro so lo) args s 0 0 A) (F0 m 17 ls []) := by
  obtain ⟨⟨hx, hb, hml, hown, hts⟩, hr, hlk, hK, hA, hsp⟩ := id C
  intro v1 v2 v3 v4 v5 sg lg H locs ls hw hl h
  unfold fX12_grows_17 at h
  refine lv_iload hx hb dX12_grows_17 (lv_at hl 5 rfl) ?_
  refine lv_aload_n hx hb dX12_grows_19 rfl (lv_at hl 0 rfl) ?_
  obtain ⟨y1, sg2, lg3, hq4, h2⟩ := bnd3_some h
  replace h := h2
  clear h2
  refine r_cVi (As := []) (rest := [.int v5]) C hw 0 (by decide) (ci := 12) rfl rfl (mX12_hens l D T ad  H.size sg lg hq4) (cwV 0 hts gX12_grows_X12_hens rfl rfl rfl (by decide +kernel) ⟨Nat.le_of_ble_eq_true rfl, Nat.le_of_ble_eq_true rfl⟩) rfl hl.1 rfl (Nat.le_of_ble_eq_true rfl) dX12_grows_20 ⟨Nat.le_of_ble_eq_true rfl, Nat.le_of_ble_eq_true rfl⟩ (fun ad' H locs hp hw => ?_)
  subst hp
  refine W.widen (k := 0) (n := 0) (by decide) (by decide) ?_
  refine lv_icmp_ge (tgt := 195) hx hb dX12_grows_23 (by decide) (fun c5 => ?_) (fun c5 => ?_)
  · replace h := ite_t h c5
    obtain ⟨x6, ex6⟩ : ∃ z : Int32, z = (v4 + (1 : Int32)) := ⟨_, rfl⟩
    replace h := lt_get h x6 ex6
    refine lv_iinc (v := x6) (lv' := [(4, .int x6), (0, .ref (ad 0)), (1, .int v1), (2, .int v2), (3, .int v3), (5, .int v5)]) hx hb dX12_grows_195 hl (k := 4) rfl (by rw [ex6]; rfl) (by decide) rfl (fun ls hl => ?_)
    refine lv_goto (tgt := 5) hx hb dX12_grows_198 (by decide) ?_
    exact hr5 v1 v2 v3 x6 sg2 lg3 h _ _ _ hw (lv_sub hl [1, 2, 3, 4, 0] rfl)
  · replace h := ite_f h c5
    refine lv_iload hx hb dX12_grows_26 (lv_at hl 4 rfl) ?_
    refine lv_iload_n hx hb dX12_grows_28 rfl (lv_at hl 1 rfl) ?_
    refine lv_icmp_ne (tgt := 47) hx hb dX12_grows_29 (by decide) (fun c7 => ?_) (fun c7 => ?_)
    · replace h := ite_f h c7
      exact tX12_grows_47 C hr5 hr17 v1 v2 v3 v4 v5 sg2 lg3 _ _ _ hw (lv_sub hl [0, 1, 2, 3, 4, 5] rfl) h
    · replace h := ite_t h c7
      refine lv_aload_n hx hb dX12_grows_32 rfl (lv_at hl 0 rfl) ?_
      refine r_getR (ci := 12) (C := RX12) (U := TX12) (N := 18) hx hb hts kX12_grows_iX12 hown hK hw 0 (by decide) rfl rfl 10 (by decide) 6 rfl (hts _ kX12_grows_f27) (fun _ h9 => h9) dX12_grows_33 ?_
      refine lv_bipush (v := (12 : Int32)) hx hb dX12_grows_36 (by decide) ?_
      refine lv_iload_n hx hb dX12_grows_38 rfl (lv_at hl 2 rfl) ?_
      refine lv_imul hx hb dX12_grows_39 ?_
      refine lv_iload hx hb dX12_grows_40 (lv_at hl 5 rfl) ?_
      refine lv_iadd hx hb dX12_grows_42 ?_
      refine lv_topi (fun x8 ex8 => ?_)
      replace h := lt_get h x8 ex8
      have hi9 := (gin_some h).1
      replace h := (gin_some h).2
      refine r_zald hx hb hK hw 6 1 144 (by decide) rfl rfl rfl hi9 dX12_grows_43 ?_
      refine lv_if_ne (tgt := 68) hx hb dX12_grows_44 (by decide) (fun c10 => ?_) (fun c10 => ?_)
      · replace h := ite_f h c10
        exact tX12_grows_68 C hr5 hr17 v1 v2 v3 v4 v5 sg2 lg3 _ _ _ hw (lv_sub hl [0, 1, 2, 3, 4, 5] rfl) h
      · replace h := ite_t h c10
        exact tX12_grows_47 C hr5 hr17 v1 v2 v3 v4 v5 sg2 lg3 _ _ _ hw (lv_sub hl [0, 1, 2, 3, 4, 5] rfl) h
def LX12_grows_17 (r5 : (Int32 × Int32 × Int32 × Int32 × Sg × Lg) → Option (Int32 × Sg × Lg)) : (Int32 × Int32 × Int32 × Int32 × Int32 × Sg × Lg) → Option (Int32 × Sg × Lg) := loop (fun rec z => fX12_grows_17 r5 rec z.1 z.2.1 z.2.2.1 z.2.2.2.1 z.2.2.2.2.1 z.2.2.2.2.2.1 z.2.2.2.2.2.2)
theorem TX12_grows_17 (C : Cx p s m args meth c cX12_grows 8 RX12 wsX12_grows (some .boolean) D vwCl (tysM T) A false []) {ro : Int32} {so : Sg} {lo : Lg} {r5 : (Int32 × Int32 × Int32 × Int32 × Sg × Lg) → Option (Int32 × Sg × Lg)} (hr5 : ∀ (v1 : Int32) (v2 : Int32) (v3 : Int32) (v4 : Int32) (sg : Sg) (lg : Lg), r5 (v1, v2, v3, v4, sg, lg) = some (ro, so, lo) → ∀ (H : Heap) (locs : List Loc) (ls : Array Slot), WS ZM D vwCl T ad sg lg A s.heap H locs → lv_has ls 8 [(0, .ref (ad 0)), (1, .int v1), (2, .int v2), (3, .int v3), (4, .int v4)] → W p l e rmX12_grows s m args below meth c H locs 0 0 (MQ below (QI ZM D vwCl T (tysM T) A (fun z => ad = z) ro so lo) args s 0 0 A) (F0 m 5 ls [])) : ∀ (v1 : Int32) (v2 : Int32) (v3 : Int32) (v4 : Int32) (v5 : Int32) (sg : Sg) (lg : Lg), LX12_grows_17 r5 (v1, v2, v3, v4, v5, sg, lg) = some (ro, so, lo) → ∀ (H : Heap) (locs : List Loc) (ls : Array Slot), WS ZM D vwCl T ad sg lg A s.heap H locs → lv_has ls 8 [(0, .ref (ad 0)), (1, .int v1), (2, .int v2), (3, .int v3), (4, .int v4), (5, .int v5)] → W p l e rmX12_grows s m args below meth c H locs 0 0 (MQ below (QI ZM D vwCl T (tysM T) A (fun z => ad = z) ro so lo) args s 0 0 A) (F0 m 17 ls []) := by
  have key : ∀ z : (Int32 × Int32 × Int32 × Int32 × Int32 × Sg × Lg), LX12_grows_17 r5 z = some (ro, so, lo) → ∀ (H : Heap) (locs : List Loc) (ls : Array Slot), WS ZM D vwCl T ad z.2.2.2.2.2.1 z.2.2.2.2.2.2 A s.heap H locs → lv_has ls 8 [(0, .ref (ad 0)), (1, .int z.1), (2, .int z.2.1), (3, .int z.2.2.1), (4, .int z.2.2.2.1), (5, .int z.2.2.2.2.1)] → W p l e rmX12_grows s m args below meth c H locs 0 0 (MQ below (QI ZM D vwCl T (tysM T) A (fun z => ad = z) ro so lo) args s 0 0 A) (F0 m 17 ls []) := by
    intro z h
    unfold LX12_grows_17 at h
    exact loop_ind (fun rec z => fX12_grows_17 r5 rec z.1 z.2.1 z.2.2.1 z.2.2.2.1 z.2.2.2.2.1 z.2.2.2.2.2.1 z.2.2.2.2.2.2) (y := (ro, so, lo)) (P := fun z => ∀ (H : Heap) (locs : List Loc) (ls : Array Slot), WS ZM D vwCl T ad z.2.2.2.2.2.1 z.2.2.2.2.2.2 A s.heap H locs → lv_has ls 8 [(0, .ref (ad 0)), (1, .int z.1), (2, .int z.2.1), (3, .int z.2.2.1), (4, .int z.2.2.2.1), (5, .int z.2.2.2.2.1)] → W p l e rmX12_grows s m args below meth c H locs 0 0 (MQ below (QI ZM D vwCl T (tysM T) A (fun z => ad = z) ro so lo) args s 0 0 A) (F0 m 17 ls [])) (fun rec hrec z h H locs ls hw hl => tX12_grows_17 C hr5 (fun v1 v2 v3 v4 v5 sg lg => hrec (v1, v2, v3, v4, v5, sg, lg)) z.1 z.2.1 z.2.2.1 z.2.2.2.1 z.2.2.2.2.1 z.2.2.2.2.2.1 z.2.2.2.2.2.2 H locs ls hw hl h) z h
  exact fun v1 v2 v3 v4 v5 sg lg => key (v1, v2, v3, v4, v5, sg, lg)
def fX12_grows_5 (r5 : (Int32 × Int32 × Int32 × Int32 × Sg × Lg) → Option (Int32 × Sg × Lg)) (v1 : Int32) (v2 : Int32) (v3 : Int32) (v4 : Int32) (sg : Sg) (lg : Lg) : Option (Int32 × Sg × Lg) :=
  bnd3 (fX12_hens sg lg) (fun y1 sg2 lg3 => (if y1 ≤ v4 then gz v3 (some (v3, sg2, lg3)) else LX12_grows_17 r5 (v1, v2, v3, v4, (0 : Int32), sg2, lg3)))
set_option maxHeartbeats 4000000 in
set_option maxRecDepth 100000 in
theorem tX12_grows_5 (C : Cx p s m args meth c cX12_grows 8 RX12 wsX12_grows (some .boolean) D vwCl (tysM T) A false []) {ro : Int32} {so : Sg} {lo : Lg} {r5 : (Int32 × Int32 × Int32 × Int32 × Sg × Lg) → Option (Int32 × Sg × Lg)} (hr5 : ∀ (v1 : Int32) (v2 : Int32) (v3 : Int32) (v4 : Int32) (sg : Sg) (lg : Lg), r5 (v1, v2, v3, v4, sg, lg) = some (ro, so, lo) → ∀ (H : Heap) (locs : List Loc) (ls : Array Slot), WS ZM D vwCl T ad sg lg A s.heap H locs → lv_has ls 8 [(0, .ref (ad 0)), (1, .int v1), (2, .int v2), (3, .int v3), (4, .int v4)] → W p l e rmX12_grows s m args below meth c H locs 0 0 (MQ below (QI ZM D vwCl T (tysM T) A (fun z => ad = z) ro so lo) args s 0 0 A) (F0 m 5 ls [])) : ∀ (v1 : Int32) (v2 : Int32) (v3 : Int32) (v4 : Int32) (sg : Sg) (lg : Lg), ∀ (H : Heap) (locs : List Loc) (ls : Array Slot), WS ZM D vwCl T ad sg lg A s.heap H locs → lv_has ls 8 [(0, .ref (ad 0)), (1, .int v1), (2, .int v2), (3, .int v3), (4, .int v4)] → fX12_grows_5 r5 v1 v2 v3 v4 sg lg = some (ro, so, lo) → W p l e rmX12_grows s m args below meth c H locs 0 0 (MQ below (QI ZM D vwCl T (tysM T) A (fun z => ad = z) ro so lo) args s 0 0 A) (F0 m 5 ls []) := by
  obtain ⟨⟨hx, hb, hml, hown, hts⟩, hr, hlk, hK, hA, hsp⟩ := id C
  intro v1 v2 v3 v4 sg lg H locs ls hw hl h
  unfold fX12_grows_5 at h
  refine lv_iload hx hb dX12_grows_5 (lv_at hl 4 rfl) ?_
  refine lv_aload_n hx hb dX12_grows_7 rfl (lv_at hl 0 rfl) ?_
  obtain ⟨y1, sg2, lg3, hq4, h2⟩ := bnd3_some h
  replace h := h2
  clear h2
  refine r_cVi (As := []) (rest := [.int v4]) C hw 0 (by decide) (ci := 12) rfl rfl (mX12_hens l D T ad  H.size sg lg hq4) (cwV 0 hts gX12_grows_X12_hens rfl rfl rfl (by decide +kernel) ⟨Nat.le_of_ble_eq_true rfl, Nat.le_of_ble_eq_true rfl⟩) rfl hl.1 rfl (Nat.le_of_ble_eq_true rfl) dX12_grows_8 ⟨Nat.le_of_ble_eq_true rfl, Nat.le_of_ble_eq_true rfl⟩ (fun ad' H locs hp hw => ?_)
  subst hp
  refine W.widen (k := 0) (n := 0) (by decide) (by decide) ?_
  refine lv_icmp_ge (tgt := 201) hx hb dX12_grows_11 (by decide) (fun c5 => ?_) (fun c5 => ?_)
  · replace h := ite_t h c5
    refine lv_iload_n hx hb dX12_grows_201 rfl (lv_at hl 3 rfl) ?_
    have hz6 := (gz_some h).1
    replace h := (gz_some h).2
    cases h
    exact r_zret C hw rfl hz6 (by decide) (by decide) dX12_grows_202
  · replace h := ite_f h c5
    refine lv_iconst (v := (0 : Int32)) hx hb dX12_grows_14 (by decide) ?_
    refine lv_istore (lv' := [(5, .int (0 : Int32)), (0, .ref (ad 0)), (1, .int v1), (2, .int v2), (3, .int v3), (4, .int v4)]) hx hb dX12_grows_15 hl (by decide) rfl (fun ls hl => ?_)
    exact TX12_grows_17 C hr5 v1 v2 v3 v4 (0 : Int32) sg2 lg3 h _ _ _ hw (lv_sub hl [1, 2, 3, 4, 5, 0] rfl)
def LX12_grows_5  : (Int32 × Int32 × Int32 × Int32 × Sg × Lg) → Option (Int32 × Sg × Lg) := loop (fun rec z => fX12_grows_5 rec z.1 z.2.1 z.2.2.1 z.2.2.2.1 z.2.2.2.2.1 z.2.2.2.2.2)
theorem TX12_grows_5 (C : Cx p s m args meth c cX12_grows 8 RX12 wsX12_grows (some .boolean) D vwCl (tysM T) A false []) {ro : Int32} {so : Sg} {lo : Lg}   : ∀ (v1 : Int32) (v2 : Int32) (v3 : Int32) (v4 : Int32) (sg : Sg) (lg : Lg), LX12_grows_5 (v1, v2, v3, v4, sg, lg) = some (ro, so, lo) → ∀ (H : Heap) (locs : List Loc) (ls : Array Slot), WS ZM D vwCl T ad sg lg A s.heap H locs → lv_has ls 8 [(0, .ref (ad 0)), (1, .int v1), (2, .int v2), (3, .int v3), (4, .int v4)] → W p l e rmX12_grows s m args below meth c H locs 0 0 (MQ below (QI ZM D vwCl T (tysM T) A (fun z => ad = z) ro so lo) args s 0 0 A) (F0 m 5 ls []) := by
  have key : ∀ z : (Int32 × Int32 × Int32 × Int32 × Sg × Lg), LX12_grows_5  z = some (ro, so, lo) → ∀ (H : Heap) (locs : List Loc) (ls : Array Slot), WS ZM D vwCl T ad z.2.2.2.2.1 z.2.2.2.2.2 A s.heap H locs → lv_has ls 8 [(0, .ref (ad 0)), (1, .int z.1), (2, .int z.2.1), (3, .int z.2.2.1), (4, .int z.2.2.2.1)] → W p l e rmX12_grows s m args below meth c H locs 0 0 (MQ below (QI ZM D vwCl T (tysM T) A (fun z => ad = z) ro so lo) args s 0 0 A) (F0 m 5 ls []) := by
    intro z h
    unfold LX12_grows_5 at h
    exact loop_ind (fun rec z => fX12_grows_5 rec z.1 z.2.1 z.2.2.1 z.2.2.2.1 z.2.2.2.2.1 z.2.2.2.2.2) (y := (ro, so, lo)) (P := fun z => ∀ (H : Heap) (locs : List Loc) (ls : Array Slot), WS ZM D vwCl T ad z.2.2.2.2.1 z.2.2.2.2.2 A s.heap H locs → lv_has ls 8 [(0, .ref (ad 0)), (1, .int z.1), (2, .int z.2.1), (3, .int z.2.2.1), (4, .int z.2.2.2.1)] → W p l e rmX12_grows s m args below meth c H locs 0 0 (MQ below (QI ZM D vwCl T (tysM T) A (fun z => ad = z) ro so lo) args s 0 0 A) (F0 m 5 ls [])) (fun rec hrec z h H locs ls hw hl => tX12_grows_5 C  (fun v1 v2 v3 v4 sg lg => hrec (v1, v2, v3, v4, sg, lg)) z.1 z.2.1 z.2.2.1 z.2.2.2.1 z.2.2.2.2.1 z.2.2.2.2.2 H locs ls hw hl h) z h
  exact fun v1 v2 v3 v4 sg lg => key (v1, v2, v3, v4, sg, lg)
def fX12_grows  (v1 : Int32) (v2 : Int32) (sg : Sg) (lg : Lg) : Option (Int32 × Sg × Lg) :=
  LX12_grows_5 (v1, v2, (0 : Int32), (0 : Int32), sg, lg)
set_option maxHeartbeats 4000000 in
set_option maxRecDepth 100000 in
theorem tX12_grows_0 (C : Cx p s m args meth c cX12_grows 8 RX12 wsX12_grows (some .boolean) D vwCl (tysM T) A false []) {ro : Int32} {so : Sg} {lo : Lg}   : ∀ (v1 : Int32) (v2 : Int32) (sg : Sg) (lg : Lg), ∀ (H : Heap) (locs : List Loc) (ls : Array Slot), WS ZM D vwCl T ad sg lg A s.heap H locs → lv_has ls 8 [(0, .ref (ad 0)), (1, .int v1), (2, .int v2)] → fX12_grows v1 v2 sg lg = some (ro, so, lo) → W p l e rmX12_grows s m args below meth c H locs 0 0 (MQ below (QI ZM D vwCl T (tysM T) A (fun z => ad = z) ro so lo) args s 0 0 A) (F0 m 0 ls []) := by
  obtain ⟨⟨hx, hb, hml, hown, hts⟩, hr, hlk, hK, hA, hsp⟩ := id C
  intro v1 v2 sg lg H locs ls hw hl h
  unfold fX12_grows at h
  refine lv_iconst (v := (0 : Int32)) hx hb dX12_grows_0 (by decide) ?_
  refine lv_istore_n (lv' := [(3, .int (0 : Int32)), (0, .ref (ad 0)), (1, .int v1), (2, .int v2)]) hx hb dX12_grows_1 rfl hl (by decide) rfl (fun ls hl => ?_)
  refine lv_iconst (v := (0 : Int32)) hx hb dX12_grows_2 (by decide) ?_
  refine lv_istore (lv' := [(4, .int (0 : Int32)), (3, .int (0 : Int32)), (0, .ref (ad 0)), (1, .int v1), (2, .int v2)]) hx hb dX12_grows_3 hl (by decide) rfl (fun ls hl => ?_)
  exact TX12_grows_5 C v1 v2 (0 : Int32) (0 : Int32) sg lg h _ _ _ hw (lv_sub hl [2, 3, 4, 1, 0] rfl)
theorem mX12_grows (l : Launch) (D : va_G) (T : Nat → ClassId) (ad : Nat → Nat)  (sz : Nat)   (v1 : Int32) (v2 : Int32) (sg : Sg) (lg : Lg) {ro : Int32} {so : Sg} {lo : Lg} (h : fX12_grows v1 v2 sg lg = some (ro, so, lo)) : Met l yX12_grows wsX12_grows rmX12_grows (PreZ ZM D vwCl T (tysM T) ad sg lg false [] [.ref (ad 0), .int v1, .int v2] sz) (QI ZM D vwCl T (tysM T) (va_A (zwd ZM T ad sg lg) sz) (fun z => ad = z) ro so lo) 0 0 (va_A (zwd ZM T ad sg lg) sz) :=
  metZ [.ref (ad 0), .int v1, .int v2] sz (by decide) rfl (Nat.le_of_ble_eq_true rfl) (fun p e s m below meth c ls C hw hl => tX12_grows_0 C v1 v2 sg lg _ _ _ hw hl h)
end ZM
