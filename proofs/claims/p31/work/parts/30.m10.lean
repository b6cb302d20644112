section ZM
variable {p : Program} {l : Launch} {e : Env} {s : State} {m : MethodId} {args : Array Value} {below : List Frame} {meth : Method} {c : Code} {D : va_G} {T : Nat → ClassId} {A : Nat → Prop} {ad a : Nat → Nat}
-- PeckYardModel.findReach()V
def rmX12_findReach : Room := { frames := 3, cells := 0, slots := 0, locals := 67 }
theorem kX12_findReach_f34 : Cond.fieldLink RX12 34 "PeckYardModel" "reaches" "[Z" ∈ wsX12_findReach := by decide +kernel
theorem kX12_findReach_iX12 : ∀ w ∈ u_ws RX12 TX12 18, w ∈ wsX12_findReach := by decide +kernel
def fX12_findReach_155 (r76 : (Int32 × Sg × Lg) → Option (Sg × Lg)) (r84 : (Int32 × Int32 × Sg × Lg) → Option (Sg × Lg)) (r92 : (Int32 × Int32 × Int32 × Sg × Lg) → Option (Sg × Lg)) (v1 : Int32) (v2 : Int32) (v3 : Int32) (w0 : Int32) (w1 : Int32) (sg : Sg) (lg : Lg) : Option (Sg × Lg) :=
  gin w1 144 (lt (up2 sg 8 w1.toNatClampNeg (w0 &&& 1)) (fun sg2 => lt (v3 + (1 : Int32)) (fun x3 => r92 (v1, v2, x3, sg2, lg))))
set_option maxHeartbeats 4000000 in
set_option maxRecDepth 100000 in
theorem tX12_findReach_155 (C : Cx p s m args meth c cX12_findReach 4 RX12 wsX12_findReach none D vwCl (tysM T) A false []) {so : Sg} {lo : Lg} {r76 : (Int32 × Sg × Lg) → Option (Sg × Lg)} {r84 : (Int32 × Int32 × Sg × Lg) → Option (Sg × Lg)} {r92 : (Int32 × Int32 × Int32 × Sg × Lg) → Option (Sg × Lg)} (hr76 : ∀ (v1 : Int32) (sg : Sg) (lg : Lg), r76 (v1, sg, lg) = some (so, lo) → ∀ (H : Heap) (locs : List Loc) (ls : Array Slot), WS ZM D vwCl T ad sg lg A s.heap H locs → lv_has ls 4 [(0, .ref (ad 0)), (1, .int v1)] → W p l e rmX12_findReach s m args below meth c H locs 0 0 (MQ below (QV ZM D vwCl T (tysM T) A (fun z => ad = z) so lo) args s 0 0 A) (F0 m 76 ls [])) (hr84 : ∀ (v1 : Int32) (v2 : Int32) (sg : Sg) (lg : Lg), r84 (v1, v2, sg, lg) = some (so, lo) → ∀ (H : Heap) (locs : List Loc) (ls : Array Slot), WS ZM D vwCl T ad sg lg A s.heap H locs → lv_has ls 4 [(0, .ref (ad 0)), (1, .int v1), (2, .int v2)] → W p l e rmX12_findReach s m args below meth c H locs 0 0 (MQ below (QV ZM D vwCl T (tysM T) A (fun z => ad = z) so lo) args s 0 0 A) (F0 m 84 ls [])) (hr92 : ∀ (v1 : Int32) (v2 : Int32) (v3 : Int32) (sg : Sg) (lg : Lg), r92 (v1, v2, v3, sg, lg) = some (so, lo) → ∀ (H : Heap) (locs : List Loc) (ls : Array Slot), WS ZM D vwCl T ad sg lg A s.heap H locs → lv_has ls 4 [(0, .ref (ad 0)), (1, .int v1), (2, .int v2), (3, .int v3)] → W p l e rmX12_findReach s m args below meth c H locs 0 0 (MQ below (QV ZM D vwCl T (tysM T) A (fun z => ad = z) so lo) args s 0 0 A) (F0 m 92 ls [])) : ∀ (v1 : Int32) (v2 : Int32) (v3 : Int32) (w0 : Int32) (w1 : Int32) (sg : Sg) (lg : Lg), ∀ (H : Heap) (locs : List Loc) (ls : Array Slot), WS ZM D vwCl T ad sg lg A s.heap H locs → lv_has ls 4 [(0, .ref (ad 0)), (1, .int v1), (2, .int v2), (3, .int v3)] → fX12_findReach_155 r76 r84 r92 v1 v2 v3 w0 w1 sg lg = some (so, lo) → W p l e rmX12_findReach s m args below meth c H locs 0 0 (MQ below (QV ZM D vwCl T (tysM T) A (fun z => ad = z) so lo) args s 0 0 A) (F0 m 155 ls [.int w0, .int w1, .ref (ad 8)]) := by
  obtain ⟨⟨hx, hb, hml, hown, hts⟩, hr, hlk, hK, hA, hsp⟩ := id C
  intro v1 v2 v3 w0 w1 sg lg H locs ls hw hl h
  unfold fX12_findReach_155 at h
  have hi1 := (gin_some h).1
  replace h := (gin_some h).2
  refine r_zast ZM_ok hx hb hK hw 8 1 144 (by decide) rfl rfl rfl hi1 dX12_findReach_155 (fun H locs sg2 esg2 hw => ?_)
  replace h := lt_get h sg2 esg2
  obtain ⟨x3, ex3⟩ : ∃ z : Int32, z = (v3 + (1 : Int32)) := ⟨_, rfl⟩
  replace h := lt_get h x3 ex3
  refine lv_iinc (v := x3) (lv' := [(3, .int x3), (0, .ref (ad 0)), (1, .int v1), (2, .int v2)]) hx hb dX12_findReach_156 hl (k := 3) rfl (by rw [ex3]; rfl) (by decide) rfl (fun ls hl => ?_)
  refine lv_goto (tgt := 92) hx hb dX12_findReach_159 (by decide) ?_
  exact hr92 v1 v2 x3 sg2 lg h _ _ _ hw (lv_sub hl [1, 2, 3, 0] rfl)
def fX12_findReach_150 (r76 : (Int32 × Sg × Lg) → Option (Sg × Lg)) (r84 : (Int32 × Int32 × Sg × Lg) → Option (Sg × Lg)) (r92 : (Int32 × Int32 × Int32 × Sg × Lg) → Option (Sg × Lg)) (v1 : Int32) (v2 : Int32) (v3 : Int32) (w0 : Int32) (sg : Sg) (lg : Lg) : Option (Sg × Lg) :=
  fX12_findReach_155 r76 r84 r92 v1 v2 v3 (1 : Int32) w0 sg lg
set_option maxHeartbeats 4000000 in
set_option maxRecDepth 100000 in
theorem tX12_findReach_150 (C : Cx p s m args meth c cX12_findReach 4 RX12 wsX12_findReach none D vwCl (tysM T) A false []) {so : Sg} {lo : Lg} {r76 : (Int32 × Sg × Lg) → Option (Sg × Lg)} {r84 : (Int32 × Int32 × Sg × Lg) → Option (Sg × Lg)} {r92 : (Int32 × Int32 × Int32 × Sg × Lg) → Option (Sg × Lg)} (hr76 : ∀ (v1 : Int32) (sg : Sg) (lg : Lg), r76 (v1, sg, lg) = some (so, lo) → ∀ (H : Heap) (locs : List Loc) (ls : Array Slot), WS ZM D vwCl T ad sg lg A s.heap H locs → lv_has ls 4 [(0, .ref (ad 0)), (1, .int v1)] → W p l e rmX12_findReach s m args below meth c H locs 0 0 (MQ below (QV ZM D vwCl T (tysM T) A (fun z => ad = z) so lo) args s 0 0 A) (F0 m 76 ls [])) (hr84 : ∀ (v1 : Int32) (v2 : Int32) (sg : Sg) (lg : Lg), r84 (v1, v2, sg, lg) = some (so, lo) → ∀ (H : Heap) (locs : List Loc) (ls : Array Slot), WS ZM D vwCl T ad sg lg A s.heap H locs → lv_has ls 4 [(0, .ref (ad 0)), (1, .int v1), (2, .int v2)] → W p l e rmX12_findReach s m args below meth c H locs 0 0 (MQ below (QV ZM D vwCl T (tysM T) A (fun z => ad = z) so lo) args s 0 0 A) (F0 m 84 ls [])) (hr92 : ∀ (v1 : Int32) (v2 : Int32) (v3 : Int32) (sg : Sg) (lg : Lg), r92 (v1, v2, v3, sg, lg) = some (so, lo) → ∀ (H : Heap) (locs : List Loc) (ls : Array Slot), WS ZM D vwCl T ad sg lg A s.heap H locs → lv_has ls 4 [(0, .ref (ad 0)), (1, .int v1), (2, .int v2), (3, .int v3)] → W p l e rmX12_findReach s m args below meth c H locs 0 0 (MQ below (QV ZM D vwCl T (tysM T) A (fun z => ad = z) so lo) args s 0 0 A) (F0 m 92 ls [])) : ∀ (v1 : Int32) (v2 : Int32) (v3 : Int32) (w0 : Int32) (sg : Sg) (lg : Lg), ∀ (H : Heap) (locs : List Loc) (ls : Array Slot), WS ZM D vwCl T ad sg lg A s.heap H locs → lv_has ls 4 [(0, .ref (ad 0)), (1, .int v1), (2, .int v2), (3, .int v3)] → fX12_findReach_150 r76 r84 r92 v1 v2 v3 w0 sg lg = some (so, lo) → W p l e rmX12_findReach s m args below meth c H locs 0 0 (MQ below (QV ZM D vwCl T (tysM T) A (fun z => ad = z) so lo) args s 0 0 A) (F0 m 150 ls [.int w0, .ref (ad 8)]) := by
  obtain ⟨⟨hx, hb, hml, hown, hts⟩, hr, hlk, hK, hA, hsp⟩ := id C
  intro v1 v2 v3 w0 sg lg H locs ls hw hl h
  unfold fX12_findReach_150 at h
  refine lv_iconst (v := (1 : Int32)) hx hb dX12_findReach_150 (by decide) ?_
  refine lv_goto (tgt := 155) hx hb dX12_findReach_151 (by decide) ?_
  exact tX12_findReach_155 C hr76 hr84 hr92 v1 v2 v3 (1 : Int32) w0 sg lg _ _ _ hw (lv_sub hl [0, 1, 2, 3] rfl) h
def fX12_findReach_154 (r76 : (Int32 × Sg × Lg) → Option (Sg × Lg)) (r84 : (Int32 × Int32 × Sg × Lg) → Option (Sg × Lg)) (r92 : (Int32 × Int32 × Int32 × Sg × Lg) → Option (Sg × Lg)) (v1 : Int32) (v2 : Int32) (v3 : Int32) (w0 : Int32) (sg : Sg) (lg : Lg) : Option (Sg × Lg) :=
  fX12_findReach_155 r76 r84 r92 v1 v2 v3 (0 : Int32) w0 sg lg
set_option maxHeartbeats 4000000 in
set_option maxRecDepth 100000 in
theorem tX12_findReach_154 (C : Cx p s m args meth c cX12_findReach 4 RX12 wsX12_findReach none D vwCl (tysM T) A false []) {so : Sg} {lo : Lg} {r76 : (Int32 × Sg × Lg) → Option (Sg × Lg)} {r84 : (Int32 × Int32 × Sg × Lg) → Option (Sg × Lg)} {r92 : (Int32 × Int32 × Int32 × Sg × Lg) → Option (Sg × Lg)} (hr76 : ∀ (v1 : Int32) (sg : Sg) (lg : Lg), r76 (v1, sg, lg) = some (so, lo) → ∀ (H : Heap) (locs : List Loc) (ls : Array Slot), WS ZM D vwCl T ad sg lg A s.heap H locs → lv_has ls 4 [(0, .ref (ad 0)), (1, .int v1)] → W p l e rmX12_findReach s m args below meth c H locs 0 0 (MQ below (QV ZM D vwCl T (tysM T) A (fun z => ad = z) so lo) args s 0 0 A) (F0 m 76 ls [])) (hr84 : ∀ (v1 : Int32) (v2 : Int32) (sg : Sg) (lg : Lg), r84 (v1, v2, sg, lg) = some (so, lo) → ∀ (H : Heap) (locs : List Loc) (ls : Array Slot), WS ZM D vwCl T ad sg lg A s.heap H locs → lv_has ls 4 [(0, .ref (ad 0)), (1, .int v1), (2, .int v2)] → W p l e rmX12_findReach s m args below meth c H locs 0 0 (MQ below (QV ZM D vwCl T (tysM T) A (fun z => ad = z) so lo) args s 0 0 A) (F0 m 84 ls [])) (hr92 : ∀ (v1 : Int32) (v2 : Int32) (v3 : Int32) (sg : Sg) (lg : Lg), r92 (v1, v2, v3, sg, lg) = some (so, lo) → ∀ (H : Heap) (locs : List Loc) (ls : Array Slot), WS ZM D vwCl T ad sg lg A s.heap H locs → lv_has ls 4 [(0, .ref (ad 0)), (1, .int v1), (2, .int v2), (3, .int v3)] → W p l e rmX12_findReach s m args below meth c H locs 0 0 (MQ below (QV ZM D vwCl T (tysM T) A (fun z => ad = z) so lo) args s 0 0 A) (F0 m 92 ls [])) : ∀ (v1 : Int32) (v2 : Int32) (v3 : Int32) (w0 : Int32) (sg : Sg) (lg : Lg), ∀ (H : Heap) (locs : List Loc) (ls : Array Slot), WS ZM D vwCl T ad sg lg A s.heap H locs → lv_has ls 4 [(0, .ref (ad 0)), (1, .int v1), (2, .int v2), (3, .int v3)] → fX12_findReach_154 r76 r84 r92 v1 v2 v3 w0 sg lg = some (so, lo) → W p l e rmX12_findReach s m args below meth c H locs 0 0 (MQ below (QV ZM D vwCl T (tysM T) A (fun z => ad = z) so lo) args s 0 0 A) (F0 m 154 ls [.int w0, .ref (ad 8)]) := by
  obtain ⟨⟨hx, hb, hml, hown, hts⟩, hr, hlk, hK, hA, hsp⟩ := id C
  intro v1 v2 v3 w0 sg lg H locs ls hw hl h
  unfold fX12_findReach_154 at h
  refine lv_iconst (v := (0 : Int32)) hx hb dX12_findReach_154 (by decide) ?_
  exact tX12_findReach_155 C hr76 hr84 hr92 v1 v2 v3 (0 : Int32) w0 sg lg _ _ _ hw (lv_sub hl [0, 1, 2, 3] rfl) h
def fX12_findReach_92 (r76 : (Int32 × Sg × Lg) → Option (Sg × Lg)) (r84 : (Int32 × Int32 × Sg × Lg) → Option (Sg × Lg)) (r92 : (Int32 × Int32 × Int32 × Sg × Lg) → Option (Sg × Lg)) (v1 : Int32) (v2 : Int32) (v3 : Int32) (sg : Sg) (lg : Lg) : Option (Sg × Lg) :=
  (if (12 : Int32) ≤ v3 then lt (v2 + (1 : Int32)) (fun x2 => r84 (v1, x2, sg, lg)) else lt (((12 : Int32) * v2) + v3) (fun x3 => gin x3 144 ((if (sg 8 x3.toNatClampNeg) = 0 then lt (((12 : Int32) * v2) + v1) (fun x6 => gin x6 144 ((if (sg 8 x6.toNatClampNeg) = 0 then fX12_findReach_154 r76 r84 r92 v1 v2 v3 (((12 : Int32) * v2) + v3) sg lg else lt (((12 : Int32) * v1) + v3) (fun x9 => gin x9 144 ((if (sg 8 x9.toNatClampNeg) = 0 then fX12_findReach_154 r76 r84 r92 v1 v2 v3 (((12 : Int32) * v2) + v3) sg lg else fX12_findReach_150 r76 r84 r92 v1 v2 v3 (((12 : Int32) * v2) + v3) sg lg)))))) else fX12_findReach_150 r76 r84 r92 v1 v2 v3 (((12 : Int32) * v2) + v3) sg lg))))
set_option maxHeartbeats 4000000 in
set_option maxRecDepth 100000 in
theorem tX12_findReach_92 (C : Cx p s m args meth c cX12_findReach 4 RX12 wsX12_findReach none D vwCl (tysM T) A false []) {so : Sg} {lo : Lg} {r76 : (Int32 × Sg × Lg) → Option (Sg × Lg)} {r84 : (Int32 × Int32 × Sg × Lg) → Option (Sg × Lg)} {r92 : (Int32 × Int32 × Int32 × Sg × Lg) → Option (Sg × Lg)} (hr76 : ∀ (v1 : Int32) (sg : Sg) (lg : Lg), r76 (v1, sg, lg) = some (so, lo) → ∀ (H : Heap) (locs : List Loc) (ls : Array Slot), WS ZM D vwCl T ad sg lg A s.heap H locs → lv_has ls 4 [(0, .ref (ad 0)), (1, .int v1)] → W p l e rmX12_findReach s m args below meth c H locs 0 0 (MQ below (QV ZM D vwCl T (tysM T) A (fun z => ad = z) so lo) args s 0 0 A) (F0 m 76 ls [])) (hr84 : ∀ (v1 : Int32) (v2 : Int32) (sg : Sg) (lg : Lg), r84 (v1, v2, sg, lg) = some (so, lo) → ∀ (H : Heap) (locs : List Loc) (ls : Array Slot), WS ZM D vwCl T ad sg lg A s.heap H locs → lv_has ls 4 [(0, .ref (ad 0)), (1, .int v1), (2, .int v2)] → W p l e rmX12_findReach s m args below meth c H locs 0 0 (MQ below (QV ZM D vwCl T (tysM T) A (fun z => ad = z) so lo) args s 0 0 A) (F0 m 84 ls [])) (hr92 : ∀ (v1 : Int32) (v2 : Int32) (v3 : Int32) (sg : Sg) (lg : Lg), r92 (v1, v2, v3, sg, lg) = some (so, lo) → ∀ (H : Heap) (locs : List Loc) (ls : Array Slot), WS ZM D vwCl T ad sg lg A s.heap H locs → lv_has ls 4 [(0, .ref (ad 0)), (1, .int v1), (2, .int v2), (3, .int v3)] → W p l e rmX12_findReach s m args below meth c H locs 0 0 (MQ below (QV ZM D vwCl T (tysM T) A (fun z => ad = z) so lo) args s 0 0 A) (F0 m 92 ls [])) : ∀ (v1 : Int32) (v2 : Int32) (v3 : Int32) (sg : Sg) (lg : Lg), ∀ (H : Heap) (locs : List Loc) (ls : Array Slot), WS ZM D vwCl T ad sg lg A s.heap H locs → lv_has ls 4 [(0, .ref (ad 0)), (1, .int v1), (2, .int v2), (3, .int v3)] → fX12_findReach_92 r76 r84 r92 v1 v2 v3 sg lg = some (so, lo) → W p l e rmX12_findReach s m args below meth c H locs 0 0 (MQ below (QV ZM D vwCl T (tysM T) A (fun z => ad = z) so lo) args s 0 0 A) (F0 m 92 ls []) := by
  obtain ⟨⟨hx, hb, hml, hown, hts⟩, hr, hlk, hK, hA, hsp⟩ := id C
  intro v1 v2 v3 sg lg H locs ls hw hl h
  unfold fX12_findReach_92 at h
  refine lv_iload_n hx hb dX12_findReach_92 rfl (lv_at hl 3 rfl) ?_
  refine lv_bipush (v := (12 : Int32)) hx hb dX12_findReach_93 (by decide) ?_
  refine lv_icmp_ge (tgt := 162) hx hb dX12_findReach_95 (by decide) (fun c1 => ?_) (fun c1 => ?_)
  · replace h := ite_t h c1
    obtain ⟨x2, ex2⟩ : ∃ z : Int32, z = (v2 + (1 : Int32)) := ⟨_, rfl⟩
    replace h := lt_get h x2 ex2
    refine lv_iinc (v := x2) (lv' := [(2, .int x2), (0, .ref (ad 0)), (1, .int v1), (3, .int v3)]) hx hb dX12_findReach_162 hl (k := 2) rfl (by rw [ex2]; rfl) (by decide) rfl (fun ls hl => ?_)
    refine lv_goto (tgt := 84) hx hb dX12_findReach_165 (by decide) ?_
    exact hr84 v1 x2 sg lg h _ _ _ hw (lv_sub hl [1, 2, 0] rfl)
  · replace h := ite_f h c1
    refine lv_aload_n hx hb dX12_findReach_98 rfl (lv_at hl 0 rfl) ?_
    refine r_getR (ci := 12) (C := RX12) (U := TX12) (N := 18) hx hb hts kX12_findReach_iX12 hown hK hw 0 (by decide) rfl rfl 12 (by decide) 8 rfl (hts _ kX12_findReach_f34) (fun _ h9 => h9) dX12_findReach_99 ?_
    refine lv_bipush (v := (12 : Int32)) hx hb dX12_findReach_102 (by decide) ?_
    refine lv_iload_n hx hb dX12_findReach_104 rfl (lv_at hl 2 rfl) ?_
    refine lv_imul hx hb dX12_findReach_105 ?_
    refine lv_iload_n hx hb dX12_findReach_106 rfl (lv_at hl 3 rfl) ?_
    refine lv_iadd hx hb dX12_findReach_107 ?_
    refine lv_aload_n hx hb dX12_findReach_108 rfl (lv_at hl 0 rfl) ?_
    refine r_getR (ci := 12) (C := RX12) (U := TX12) (N := 18) hx hb hts kX12_findReach_iX12 hown hK hw 0 (by decide) rfl rfl 12 (by decide) 8 rfl (hts _ kX12_findReach_f34) (fun _ h9 => h9) dX12_findReach_109 ?_
    refine lv_bipush (v := (12 : Int32)) hx hb dX12_findReach_112 (by decide) ?_
    refine lv_iload_n hx hb dX12_findReach_114 rfl (lv_at hl 2 rfl) ?_
    refine lv_imul hx hb dX12_findReach_115 ?_
    refine lv_iload_n hx hb dX12_findReach_116 rfl (lv_at hl 3 rfl) ?_
    refine lv_iadd hx hb dX12_findReach_117 ?_
    refine lv_topi (fun x3 ex3 => ?_)
    replace h := lt_get h x3 ex3
    have hi4 := (gin_some h).1
    replace h := (gin_some h).2
    refine r_zald hx hb hK hw 8 1 144 (by decide) rfl rfl rfl hi4 dX12_findReach_118 ?_
    refine lv_if_ne (tgt := 150) hx hb dX12_findReach_119 (by decide) (fun c5 => ?_) (fun c5 => ?_)
    · replace h := ite_f h c5
      exact tX12_findReach_150 C hr76 hr84 hr92 v1 v2 v3 (((12 : Int32) * v2) + v3) sg lg _ _ _ hw (lv_sub hl [0, 1, 2, 3] rfl) h
    · replace h := ite_t h c5
      refine lv_aload_n hx hb dX12_findReach_122 rfl (lv_at hl 0 rfl) ?_
      refine r_getR (ci := 12) (C := RX12) (U := TX12) (N := 18) hx hb hts kX12_findReach_iX12 hown hK hw 0 (by decide) rfl rfl 12 (by decide) 8 rfl (hts _ kX12_findReach_f34) (fun _ h9 => h9) dX12_findReach_123 ?_
      refine lv_bipush (v := (12 : Int32)) hx hb dX12_findReach_126 (by decide) ?_
      refine lv_iload_n hx hb dX12_findReach_128 rfl (lv_at hl 2 rfl) ?_
      refine lv_imul hx hb dX12_findReach_129 ?_
      refine lv_iload_n hx hb dX12_findReach_130 rfl (lv_at hl 1 rfl) ?_
      refine lv_iadd hx hb dX12_findReach_131 ?_
      refine lv_topi (fun x6 ex6 => ?_)
      replace h := lt_get h x6 ex6
      have hi7 := (gin_some h).1
      replace h := (gin_some h).2
      refine r_zald hx hb hK hw 8 1 144 (by decide) rfl rfl rfl hi7 dX12_findReach_132 ?_
      refine lv_if_eq (tgt := 154) hx hb dX12_findReach_133 (by decide) (fun c8 => ?_) (fun c8 => ?_)
      · replace h := ite_t h c8
        exact tX12_findReach_154 C hr76 hr84 hr92 v1 v2 v3 (((12 : Int32) * v2) + v3) sg lg _ _ _ hw (lv_sub hl [0, 1, 2, 3] rfl) h
      · replace h := ite_f h c8
        refine lv_aload_n hx hb dX12_findReach_136 rfl (lv_at hl 0 rfl) ?_
        refine r_getR (ci := 12) (C := RX12) (U := TX12) (N := 18) hx hb hts kX12_findReach_iX12 hown hK hw 0 (by decide) rfl rfl 12 (by decide) 8 rfl (hts _ kX12_findReach_f34) (fun _ h9 => h9) dX12_findReach_137 ?_
        refine lv_bipush (v := (12 : Int32)) hx hb dX12_findReach_140 (by decide) ?_
        refine lv_iload_n hx hb dX12_findReach_142 rfl (lv_at hl 1 rfl) ?_
        refine lv_imul hx hb dX12_findReach_143 ?_
        refine lv_iload_n hx hb dX12_findReach_144 rfl (lv_at hl 3 rfl) ?_
        refine lv_iadd hx hb dX12_findReach_145 ?_
        refine lv_topi (fun x9 ex9 => ?_)
        replace h := lt_get h x9 ex9
        have hi10 := (gin_some h).1
        replace h := (gin_some h).2
        refine r_zald hx hb hK hw 8 1 144 (by decide) rfl rfl rfl hi10 dX12_findReach_146 ?_
        refine lv_if_eq (tgt := 154) hx hb dX12_findReach_147 (by decide) (fun c11 => ?_) (fun c11 => ?_)
        · replace h := ite_t h c11
          exact tX12_findReach_154 C hr76 hr84 hr92 v1 v2 v3 (((12 : Int32) * v2) + v3) sg lg _ _ _ hw (lv_sub hl [0, 1, 2, 3] rfl) h
        · replace h := ite_f h c11
          exact tX12_findReach_150 C hr76 hr84 hr92 v1 v2 v3 (((12 : Int32) * v2) + v3) sg lg _ _ _ hw (lv_sub hl [0, 1, 2, 3] rfl) h
def LX12_findReach_92 (r76 : (Int32 × Sg × Lg) → Option (Sg × Lg)) (r84 : (Int32 × Int32 × Sg × Lg) → Option (Sg × Lg)) : (Int32 × Int32 × Int32 × Sg × Lg) → Option (Sg × Lg) := loop (fun rec z => fX12_findReach_92 r76 r84 rec z.1 z.2.1 z.2.2.1 z.2.2.2.1 z.2.2.2.2)
theorem TX12_findReach_92 (C : Cx p s m args meth c cX12_findReach 4 RX12 wsX12_findReach none D vwCl (tysM T) A false []) {so : Sg} {lo : Lg} {r76 : (Int32 × Sg × Lg) → Option (Sg × Lg)} {r84 : (Int32 × Int32 × Sg × Lg) → Option (Sg × Lg)} (hr76 : ∀ (v1 : Int32) (sg : Sg) (lg : Lg), r76 (v1, sg, lg) = some (so, lo) → ∀ (H : Heap) (locs : List Loc) (ls : Array Slot), WS ZM D vwCl T ad sg lg A s.heap H locs → lv_has ls 4 [(0, .ref (ad 0)), (1, .int v1)] → W p l e rmX12_findReach s m args below meth c H locs 0 0 (MQ below (QV ZM D vwCl T (tysM T) A (fun z => ad = z) so lo) args s 0 0 A) (F0 m 76 ls [])) (hr84 : ∀ (v1 : Int32) (v2 : Int32) (sg : Sg) (lg : Lg), r84 (v1, v2, sg, lg) = some (so, lo) → ∀ (H : Heap) (locs : List Loc) (ls : Array Slot), WS ZM D vwCl T ad sg lg A s.heap H locs → lv_has ls 4 [(0, .ref (ad 0)), (1, .int v1), (2, .int v2)] → W p l e rmX12_findReach s m args below meth c H locs 0 0 (MQ below (QV ZM D vwCl T (tysM T) A (fun z => ad = z) so lo) args s 0 0 A) (F0 m 84 ls [])) : ∀ (v1 : Int32) (v2 : Int32) (v3 : Int32) (sg : Sg) (lg : Lg), LX12_findReach_92 r76 r84 (v1, v2, v3, sg, lg) = some (so, lo) → ∀ (H : Heap) (locs : List Loc) (ls : Array Slot), WS ZM D vwCl T ad sg lg A s.heap H locs → lv_has ls 4 [(0, .ref (ad 0)), (1, .int v1), (2, .int v2), (3, .int v3)] → W p l e rmX12_findReach s m args below meth c H locs 0 0 (MQ below (QV ZM D vwCl T (tysM T) A (fun z => ad = z) so lo) args s 0 0 A) (F0 m 92 ls []) := by
  have key : ∀ z : (Int32 × Int32 × Int32 × Sg × Lg), LX12_findReach_92 r76 r84 z = some (so, lo) → ∀ (H : Heap) (locs : List Loc) (ls : Array Slot), WS ZM D vwCl T ad z.2.2.2.1 z.2.2.2.2 A s.heap H locs → lv_has ls 4 [(0, .ref (ad 0)), (1, .int z.1), (2, .int z.2.1), (3, .int z.2.2.1)] → W p l e rmX12_findReach s m args below meth c H locs 0 0 (MQ below (QV ZM D vwCl T (tysM T) A (fun z => ad = z) so lo) args s 0 0 A) (F0 m 92 ls []) := by
    intro z h
    unfold LX12_findReach_92 at h
    exact loop_ind (fun rec z => fX12_findReach_92 r76 r84 rec z.1 z.2.1 z.2.2.1 z.2.2.2.1 z.2.2.2.2) (y := (so, lo)) (P := fun z => ∀ (H : Heap) (locs : List Loc) (ls : Array Slot), WS ZM D vwCl T ad z.2.2.2.1 z.2.2.2.2 A s.heap H locs → lv_has ls 4 [(0, .ref (ad 0)), (1, .int z.1), (2, .int z.2.1), (3, .int z.2.2.1)] → W p l e rmX12_findReach s m args below meth c H locs 0 0 (MQ below (QV ZM D vwCl T (tysM T) A (fun z => ad = z) so lo) args s 0 0 A) (F0 m 92 ls [])) (fun rec hrec z h H locs ls hw hl => tX12_findReach_92 C hr76 hr84 (fun v1 v2 v3 sg lg => hrec (v1, v2, v3, sg, lg)) z.1 z.2.1 z.2.2.1 z.2.2.2.1 z.2.2.2.2 H locs ls hw hl h) z h
  exact fun v1 v2 v3 sg lg => key (v1, v2, v3, sg, lg)
def fX12_findReach_84 (r76 : (Int32 × Sg × Lg) → Option (Sg × Lg)) (r84 : (Int32 × Int32 × Sg × Lg) → Option (Sg × Lg)) (v1 : Int32) (v2 : Int32) (sg : Sg) (lg : Lg) : Option (Sg × Lg) :=
  (if (12 : Int32) ≤ v2 then lt (v1 + (1 : Int32)) (fun x2 => r76 (x2, sg, lg)) else LX12_findReach_92 r76 r84 (v1, v2, (0 : Int32), sg, lg))
set_option maxHeartbeats 4000000 in
set_option maxRecDepth 100000 in
theorem tX12_findReach_84 (C : Cx p s m args meth c cX12_findReach 4 RX12 wsX12_findReach none D vwCl (tysM T) A false []) {so : Sg} {lo : Lg} {r76 : (Int32 × Sg × Lg) → Option (Sg × Lg)} {r84 : (Int32 × Int32 × Sg × Lg) → Option (Sg × Lg)} (hr76 : ∀ (v1 : Int32) (sg : Sg) (lg : Lg), r76 (v1, sg, lg) = some (so, lo) → ∀ (H : Heap) (locs : List Loc) (ls : Array Slot), WS ZM D vwCl T ad sg lg A s.heap H locs → lv_has ls 4 [(0, .ref (ad 0)), (1, .int v1)] → W p l e rmX12_findReach s m args below meth c H locs 0 0 (MQ below (QV ZM D vwCl T (tysM T) A (fun z => ad = z) so lo) args s 0 0 A) (F0 m 76 ls [])) (hr84 : ∀ (v1 : Int32) (v2 : Int32) (sg : Sg) (lg : Lg), r84 (v1, v2, sg, lg) = some (so, lo) → ∀ (H : Heap) (locs : List Loc) (ls : Array Slot), WS ZM D vwCl T ad sg lg A s.heap H locs → lv_has ls 4 [(0, .ref (ad 0)), (1, .int v1), (2, .int v2)] → W p l e rmX12_findReach s m args below meth c H locs 0 0 (MQ below (QV ZM D vwCl T (tysM T) A (fun z => ad = z) so lo) args s 0 0 A) (F0 m 84 ls [])) : ∀ (v1 : Int32) (v2 : Int32) (sg : Sg) (lg : Lg), ∀ (H : Heap) (locs : List Loc) (ls : Array Slot), WS ZM D vwCl T ad sg lg A s.heap H locs → lv_has ls 4 [(0, .ref (ad 0)), (1, .int v1), (2, .int v2)] → fX12_findReach_84 r76 r84 v1 v2 sg lg = some (so, lo) → W p l e rmX12_findReach s m args below meth c H locs 0 0 (MQ below (QV ZM D vwCl T (tysM T) A (fun z => ad = z) so lo) args s 0 0 A) (F0 m 84 ls []) := by
  obtain ⟨⟨hx, hb, hml, hown, hts⟩, hr, hlk, hK, hA, hsp⟩ := id C
  intro v1 v2 sg lg H locs ls hw hl h
  unfold fX12_findReach_84 at h
  refine lv_iload_n hx hb dX12_findReach_84 rfl (lv_at hl 2 rfl) ?_
  refine lv_bipush (v := (12 : Int32)) hx hb dX12_findReach_85 (by decide) ?_
  refine lv_icmp_ge (tgt := 168) hx hb dX12_findReach_87 (by decide) (fun c1 => ?_) (fun c1 => ?_)
  · replace h := ite_t h c1
    obtain ⟨x2, ex2⟩ : ∃ z : Int32, z = (v1 + (1 : Int32)) := ⟨_, rfl⟩
    replace h := lt_get h x2 ex2
    refine lv_iinc (v := x2) (lv' := [(1, .int x2), (0, .ref (ad 0)), (2, .int v2)]) hx hb dX12_findReach_168 hl (k := 1) rfl (by rw [ex2]; rfl) (by decide) rfl (fun ls hl => ?_)
    refine lv_goto (tgt := 76) hx hb dX12_findReach_171 (by decide) ?_
    exact hr76 x2 sg lg h _ _ _ hw (lv_sub hl [1, 0] rfl)
  · replace h := ite_f h c1
    refine lv_iconst (v := (0 : Int32)) hx hb dX12_findReach_90 (by decide) ?_
    refine lv_istore_n (lv' := [(3, .int (0 : Int32)), (0, .ref (ad 0)), (1, .int v1), (2, .int v2)]) hx hb dX12_findReach_91 rfl hl (by decide) rfl (fun ls hl => ?_)
    exact TX12_findReach_92 C hr76 hr84 v1 v2 (0 : Int32) sg lg h _ _ _ hw (lv_sub hl [1, 2, 3, 0] rfl)
def LX12_findReach_84 (r76 : (Int32 × Sg × Lg) → Option (Sg × Lg)) : (Int32 × Int32 × Sg × Lg) → Option (Sg × Lg) := loop (fun rec z => fX12_findReach_84 r76 rec z.1 z.2.1 z.2.2.1 z.2.2.2)
theorem TX12_findReach_84 (C : Cx p s m args meth c cX12_findReach 4 RX12 wsX12_findReach none D vwCl (tysM T) A false []) {so : Sg} {lo : Lg} {r76 : (Int32 × Sg × Lg) → Option (Sg × Lg)} (hr76 : ∀ (v1 : Int32) (sg : Sg) (lg : Lg), r76 (v1, sg, lg) = some (so, lo) → ∀ (H : Heap) (locs : List Loc) (ls : Array Slot), WS ZM D vwCl T ad sg lg A s.heap H locs → lv_has ls 4 [(0, .ref (ad 0)), (1, .int v1)] → W p l e rmX12_findReach s m args below meth c H locs 0 0 (MQ below (QV ZM D vwCl T (tysM T) A (fun z => ad = z) so lo) args s 0 0 A) (F0 m 76 ls [])) : ∀ (v1 : Int32) (v2 : Int32) (sg : Sg) (lg : Lg), LX12_findReach_84 r76 (v1, v2, sg, lg) = some (so, lo) → ∀ (H : Heap) (locs : List Loc) (ls : Array Slot), WS ZM D vwCl T ad sg lg A s.heap H locs → lv_has ls 4 [(0, .ref (ad 0)), (1, .int v1), (2, .int v2)] → W p l e rmX12_findReach s m args below meth c H locs 0 0 (MQ below (QV ZM D vwCl T (tysM T) A (fun z => ad = z) so lo) args s 0 0 A) (F0 m 84 ls []) := by
  have key : ∀ z : (Int32 × Int32 × Sg × Lg), LX12_findReach_84 r76 z = some (so, lo) → ∀ (H : Heap) (locs : List Loc) (ls : Array Slot), WS ZM D vwCl T ad z.2.2.1 z.2.2.2 A s.heap H locs → lv_has ls 4 [(0, .ref (ad 0)), (1, .int z.1), (2, .int z.2.1)] → W p l e rmX12_findReach s m args below meth c H locs 0 0 (MQ below (QV ZM D vwCl T (tysM T) A (fun z => ad = z) so lo) args s 0 0 A) (F0 m 84 ls []) := by
    intro z h
    unfold LX12_findReach_84 at h
    exact loop_ind (fun rec z => fX12_findReach_84 r76 rec z.1 z.2.1 z.2.2.1 z.2.2.2) (y := (so, lo)) (P := fun z => ∀ (H : Heap) (locs : List Loc) (ls : Array Slot), WS ZM D vwCl T ad z.2.2.1 z.2.2.2 A s.heap H locs → lv_has ls 4 [(0, .ref (ad 0)), (1, .int z.1), (2, .int z.2.1)] → W p l e rmX12_findReach s m args below meth c H locs 0 0 (MQ below (QV ZM D vwCl T (tysM T) A (fun z => ad = z) so lo) args s 0 0 A) (F0 m 84 ls [])) (fun rec hrec z h H locs ls hw hl => tX12_findReach_84 C hr76 (fun v1 v2 sg lg => hrec (v1, v2, sg, lg)) z.1 z.2.1 z.2.2.1 z.2.2.2 H locs ls hw hl h) z h
  exact fun v1 v2 sg lg => key (v1, v2, sg, lg)
def fX12_findReach_76 (r76 : (Int32 × Sg × Lg) → Option (Sg × Lg)) (v1 : Int32) (sg : Sg) (lg : Lg) : Option (Sg × Lg) :=
  (if (12 : Int32) ≤ v1 then some (sg, lg) else LX12_findReach_84 r76 (v1, (0 : Int32), sg, lg))
set_option maxHeartbeats 4000000 in
set_option maxRecDepth 100000 in
theorem tX12_findReach_76 (C : Cx p s m args meth c cX12_findReach 4 RX12 wsX12_findReach none D vwCl (tysM T) A false []) {so : Sg} {lo : Lg} {r76 : (Int32 × Sg × Lg) → Option (Sg × Lg)} (hr76 : ∀ (v1 : Int32) (sg : Sg) (lg : Lg), r76 (v1, sg, lg) = some (so, lo) → ∀ (H : Heap) (locs : List Loc) (ls : Array Slot), WS ZM D vwCl T ad sg lg A s.heap H locs → lv_has ls 4 [(0, .ref (ad 0)), (1, .int v1)] → W p l e rmX12_findReach s m args below meth c H locs 0 0 (MQ below (QV ZM D vwCl T (tysM T) A (fun z => ad = z) so lo) args s 0 0 A) (F0 m 76 ls [])) : ∀ (v1 : Int32) (sg : Sg) (lg : Lg), ∀ (H : Heap) (locs : List Loc) (ls : Array Slot), WS ZM D vwCl T ad sg lg A s.heap H locs → lv_has ls 4 [(0, .ref (ad 0)), (1, .int v1)] → fX12_findReach_76 r76 v1 sg lg = some (so, lo) → W p l e rmX12_findReach s m args below meth c H locs 0 0 (MQ below (QV ZM D vwCl T (tysM T) A (fun z => ad = z) so lo) args s 0 0 A) (F0 m 76 ls []) := by
  obtain ⟨⟨hx, hb, hml, hown, hts⟩, hr, hlk, hK, hA, hsp⟩ := id C
  intro v1 sg lg H locs ls hw hl h
  unfold fX12_findReach_76 at h
  refine lv_iload_n hx hb dX12_findReach_76 rfl (lv_at hl 1 rfl) ?_
  refine lv_bipush (v := (12 : Int32)) hx hb dX12_findReach_77 (by decide) ?_
  refine lv_icmp_ge (tgt := 174) hx hb dX12_findReach_79 (by decide) (fun c1 => ?_) (fun c1 => ?_)
  · replace h := ite_t h c1
    cases h
    exact r_vret C hw rfl (by decide) (by decide) dX12_findReach_174
  · replace h := ite_f h c1
    refine lv_iconst (v := (0 : Int32)) hx hb dX12_findReach_82 (by decide) ?_
    refine lv_istore_n (lv' := [(2, .int (0 : Int32)), (0, .ref (ad 0)), (1, .int v1)]) hx hb dX12_findReach_83 rfl hl (by decide) rfl (fun ls hl => ?_)
    exact TX12_findReach_84 C hr76 v1 (0 : Int32) sg lg h _ _ _ hw (lv_sub hl [1, 2, 0] rfl)
def LX12_findReach_76  : (Int32 × Sg × Lg) → Option (Sg × Lg) := loop (fun rec z => fX12_findReach_76 rec z.1 z.2.1 z.2.2)
theorem TX12_findReach_76 (C : Cx p s m args meth c cX12_findReach 4 RX12 wsX12_findReach none D vwCl (tysM T) A false []) {so : Sg} {lo : Lg}   : ∀ (v1 : Int32) (sg : Sg) (lg : Lg), LX12_findReach_76 (v1, sg, lg) = some (so, lo) → ∀ (H : Heap) (locs : List Loc) (ls : Array Slot), WS ZM D vwCl T ad sg lg A s.heap H locs → lv_has ls 4 [(0, .ref (ad 0)), (1, .int v1)] → W p l e rmX12_findReach s m args below meth c H locs 0 0 (MQ below (QV ZM D vwCl T (tysM T) A (fun z => ad = z) so lo) args s 0 0 A) (F0 m 76 ls []) := by
  have key : ∀ z : (Int32 × Sg × Lg), LX12_findReach_76  z = some (so, lo) → ∀ (H : Heap) (locs : List Loc) (ls : Array Slot), WS ZM D vwCl T ad z.2.1 z.2.2 A s.heap H locs → lv_has ls 4 [(0, .ref (ad 0)), (1, .int z.1)] → W p l e rmX12_findReach s m args below meth c H locs 0 0 (MQ below (QV ZM D vwCl T (tysM T) A (fun z => ad = z) so lo) args s 0 0 A) (F0 m 76 ls []) := by
    intro z h
    unfold LX12_findReach_76 at h
    exact loop_ind (fun rec z => fX12_findReach_76 rec z.1 z.2.1 z.2.2) (y := (so, lo)) (P := fun z => ∀ (H : Heap) (locs : List Loc) (ls : Array Slot), WS ZM D vwCl T ad z.2.1 z.2.2 A s.heap H locs → lv_has ls 4 [(0, .ref (ad 0)), (1, .int z.1)] → W p l e rmX12_findReach s m args below meth c H locs 0 0 (MQ below (QV ZM D vwCl T (tysM T) A (fun z => ad = z) so lo) args s 0 0 A) (F0 m 76 ls [])) (fun rec hrec z h H locs ls hw hl => tX12_findReach_76 C  (fun v1 sg lg => hrec (v1, sg, lg)) z.1 z.2.1 z.2.2 H locs ls hw hl h) z h
  exact fun v1 sg lg => key (v1, sg, lg)
def fX12_findReach_61 (r2 : (Int32 × Sg × Lg) → Option (Sg × Lg)) (r10 : (Int32 × Int32 × Sg × Lg) → Option (Sg × Lg)) (v1 : Int32) (v2 : Int32) (w0 : Int32) (w1 : Int32) (sg : Sg) (lg : Lg) : Option (Sg × Lg) :=
  gin w1 144 (lt (up2 sg 8 w1.toNatClampNeg (w0 &&& 1)) (fun sg2 => lt (v2 + (1 : Int32)) (fun x3 => r10 (v1, x3, sg2, lg))))
set_option maxHeartbeats 4000000 in
set_option maxRecDepth 100000 in
theorem tX12_findReach_61 (C : Cx p s m args meth c cX12_findReach 4 RX12 wsX12_findReach none D vwCl (tysM T) A false []) {so : Sg} {lo : Lg} {r2 : (Int32 × Sg × Lg) → Option (Sg × Lg)} {r10 : (Int32 × Int32 × Sg × Lg) → Option (Sg × Lg)} (hr2 : ∀ (v1 : Int32) (sg : Sg) (lg : Lg), r2 (v1, sg, lg) = some (so, lo) → ∀ (H : Heap) (locs : List Loc) (ls : Array Slot), WS ZM D vwCl T ad sg lg A s.heap H locs → lv_has ls 4 [(0, .ref (ad 0)), (1, .int v1)] → W p l e rmX12_findReach s m args below meth c H locs 0 0 (MQ below (QV ZM D vwCl T (tysM T) A (fun z => ad = z) so lo) args s 0 0 A) (F0 m 2 ls [])) (hr10 : ∀ (v1 : Int32) (v2 : Int32) (sg : Sg) (lg : Lg), r10 (v1, v2, sg, lg) = some (so, lo) → ∀ (H : Heap) (locs : List Loc) (ls : Array Slot), WS ZM D vwCl T ad sg lg A s.heap H locs → lv_has ls 4 [(0, .ref (ad 0)), (1, .int v1), (2, .int v2)] → W p l e rmX12_findReach s m args below meth c H locs 0 0 (MQ below (QV ZM D vwCl T (tysM T) A (fun z => ad = z) so lo) args s 0 0 A) (F0 m 10 ls [])) : ∀ (v1 : Int32) (v2 : Int32) (w0 : Int32) (w1 : Int32) (sg : Sg) (lg : Lg), ∀ (H : Heap) (locs : List Loc) (ls : Array Slot), WS ZM D vwCl T ad sg lg A s.heap H locs → lv_has ls 4 [(0, .ref (ad 0)), (1, .int v1), (2, .int v2)] → fX12_findReach_61 r2 r10 v1 v2 w0 w1 sg lg = some (so, lo) → W p l e rmX12_findReach s m args below meth c H locs 0 0 (MQ below (QV ZM D vwCl T (tysM T) A (fun z => ad = z) so lo) args s 0 0 A) (F0 m 61 ls [.int w0, .int w1, .ref (ad 8)]) := by
  obtain ⟨⟨hx, hb, hml, hown, hts⟩, hr, hlk, hK, hA, hsp⟩ := id C
  intro v1 v2 w0 w1 sg lg H locs ls hw hl h
  unfold fX12_findReach_61 at h
  have hi1 := (gin_some h).1
  replace h := (gin_some h).2
  refine r_zast ZM_ok hx hb hK hw 8 1 144 (by decide) rfl rfl rfl hi1 dX12_findReach_61 (fun H locs sg2 esg2 hw => ?_)
  replace h := lt_get h sg2 esg2
  obtain ⟨x3, ex3⟩ : ∃ z : Int32, z = (v2 + (1 : Int32)) := ⟨_, rfl⟩
  replace h := lt_get h x3 ex3
  refine lv_iinc (v := x3) (lv' := [(2, .int x3), (0, .ref (ad 0)), (1, .int v1)]) hx hb dX12_findReach_62 hl (k := 2) rfl (by rw [ex3]; rfl) (by decide) rfl (fun ls hl => ?_)
  refine lv_goto (tgt := 10) hx hb dX12_findReach_65 (by decide) ?_
  exact hr10 v1 x3 sg2 lg h _ _ _ hw (lv_sub hl [1, 2, 0] rfl)
def fX12_findReach_56 (r2 : (Int32 × Sg × Lg) → Option (Sg × Lg)) (r10 : (Int32 × Int32 × Sg × Lg) → Option (Sg × Lg)) (v1 : Int32) (v2 : Int32) (w0 : Int32) (sg : Sg) (lg : Lg) : Option (Sg × Lg) :=
  fX12_findReach_61 r2 r10 v1 v2 (1 : Int32) w0 sg lg
set_option maxHeartbeats 4000000 in
set_option maxRecDepth 100000 in
theorem tX12_findReach_56 (C : Cx p s m args meth c cX12_findReach 4 RX12 wsX12_findReach none D vwCl (tysM T) A false []) {so : Sg} {lo : Lg} {r2 : (Int32 × Sg × Lg) → Option (Sg × Lg)} {r10 : (Int32 × Int32 × Sg × Lg) → Option (Sg × Lg)} (hr2 : ∀ (v1 : Int32) (sg : Sg) (lg : Lg), r2 (v1, sg, lg) = some (so, lo) → ∀ (H : Heap) (locs : List Loc) (ls : Array Slot), WS ZM D vwCl T ad sg lg A s.heap H locs → lv_has ls 4 [(0, .ref (ad 0)), (1, .int v1)] → W p l e rmX12_findReach s m args below meth c H locs 0 0 (MQ below (QV ZM D vwCl T (tysM T) A (fun z => ad = z) so lo) args s 0 0 A) (F0 m 2 ls [])) (hr10 : ∀ (v1 : Int32) (v2 : Int32) (sg : Sg) (lg : Lg), r10 (v1, v2, sg, lg) = some (so, lo) → ∀ (H : Heap) (locs : List Loc) (ls : Array Slot), WS ZM D vwCl T ad sg lg A s.heap H locs → lv_has ls 4 [(0, .ref (ad 0)), (1, .int v1), (2, .int v2)] → W p l e rmX12_findReach s m args below meth c H locs 0 0 (MQ below (QV ZM D vwCl T (tysM T) A (fun z => ad = z) so lo) args s 0 0 A) (F0 m 10 ls [])) : ∀ (v1 : Int32) (v2 : Int32) (w0 : Int32) (sg : Sg) (lg : Lg), ∀ (H : Heap) (locs : List Loc) (ls : Array Slot), WS ZM D vwCl T ad sg lg A s.heap H locs → lv_has ls 4 [(0, .ref (ad 0)), (1, .int v1), (2, .int v2)] → fX12_findReach_56 r2 r10 v1 v2 w0 sg lg = some (so, lo) → W p l e rmX12_findReach s m args below meth c H locs 0 0 (MQ below (QV ZM D vwCl T (tysM T) A (fun z => ad = z) so lo) args s 0 0 A) (F0 m 56 ls [.int w0, .ref (ad 8)]) := by
  obtain ⟨⟨hx, hb, hml, hown, hts⟩, hr, hlk, hK, hA, hsp⟩ := id C
  intro v1 v2 w0 sg lg H locs ls hw hl h
  unfold fX12_findReach_56 at h
  refine lv_iconst (v := (1 : Int32)) hx hb dX12_findReach_56 (by decide) ?_
  refine lv_goto (tgt := 61) hx hb dX12_findReach_57 (by decide) ?_
  exact tX12_findReach_61 C hr2 hr10 v1 v2 (1 : Int32) w0 sg lg _ _ _ hw (lv_sub hl [0, 1, 2] rfl) h
def fX12_findReach_60 (r2 : (Int32 × Sg × Lg) → Option (Sg × Lg)) (r10 : (Int32 × Int32 × Sg × Lg) → Option (Sg × Lg)) (v1 : Int32) (v2 : Int32) (w0 : Int32) (sg : Sg) (lg : Lg) : Option (Sg × Lg) :=
  fX12_findReach_61 r2 r10 v1 v2 (0 : Int32) w0 sg lg
set_option maxHeartbeats 4000000 in
set_option maxRecDepth 100000 in
theorem tX12_findReach_60 (C : Cx p s m args meth c cX12_findReach 4 RX12 wsX12_findReach none D vwCl (tysM T) A false []) {so : Sg} {lo : Lg} {r2 : (Int32 × Sg × Lg) → Option (Sg × Lg)} {r10 : (Int32 × Int32 × Sg × Lg) → Option (Sg × Lg)} (hr2 : ∀ (v1 : Int32) (sg : Sg) (lg : Lg), r2 (v1, sg, lg) = some (so, lo) → ∀ (H : Heap) (locs : List Loc) (ls : Array Slot), WS ZM D vwCl T ad sg lg A s.heap H locs → lv_has ls 4 [(0, .ref (ad 0)), (1, .int v1)] → W p l e rmX12_findReach s m args below meth c H locs 0 0 (MQ below (QV ZM D vwCl T (tysM T) A (fun z => ad = z) so lo) args s 0 0 A) (F0 m 2 ls [])) (hr10 : ∀ (v1 : Int32) (v2 : Int32) (sg : Sg) (lg : Lg), r10 (v1, v2, sg, lg) = some (so, lo) → ∀ (H : Heap) (locs : List Loc) (ls : Array Slot), WS ZM D vwCl T ad sg lg A s.heap H locs → lv_has ls 4 [(0, .ref (ad 0)), (1, .int v1), (2, .int v2)] → W p l e rmX12_findReach s m args below meth c H locs 0 0 (MQ below (QV ZM D vwCl T (tysM T) A (fun z => ad = z) so lo) args s 0 0 A) (F0 m 10 ls [])) : ∀ (v1 : Int32) (v2 : Int32) (w0 : Int32) (sg : Sg) (lg : Lg), ∀ (H : Heap) (locs : List Loc) (ls : Array Slot), WS ZM D vwCl T ad sg lg A s.heap H locs → lv_has ls 4 [(0, .ref (ad 0)), (1, .int v1), (2, .int v2)] → fX12_findReach_60 r2 r10 v1 v2 w0 sg lg = some (so, lo) → W p l e rmX12_findReach s m args below meth c H locs 0 0 (MQ below (QV ZM D vwCl T (tysM T) A (fun z => ad = z) so lo) args s 0 0 A) (F0 m 60 ls [.int w0, .ref (ad 8)]) := by
  obtain ⟨⟨hx, hb, hml, hown, hts⟩, hr, hlk, hK, hA, hsp⟩ := id C
  intro v1 v2 w0 sg lg H locs ls hw hl h
  unfold fX12_findReach_60 at h
  refine lv_iconst (v := (0 : Int32)) hx hb dX12_findReach_60 (by decide) ?_
  exact tX12_findReach_61 C hr2 hr10 v1 v2 (0 : Int32) w0 sg lg _ _ _ hw (lv_sub hl [0, 1, 2] rfl) h
def fX12_findReach_10 (r2 : (Int32 × Sg × Lg) → Option (Sg × Lg)) (r10 : (Int32 × Int32 × Sg × Lg) → Option (Sg × Lg)) (v1 : Int32) (v2 : Int32) (sg : Sg) (lg : Lg) : Option (Sg × Lg) :=
  (if (12 : Int32) ≤ v2 then lt (v1 + (1 : Int32)) (fun x2 => r2 (x2, sg, lg)) else (if v1 = v2 then fX12_findReach_56 r2 r10 v1 v2 (((12 : Int32) * v1) + v2) sg lg else bnd3 (fX12_counts v1 sg lg) (fun y4 sg5 lg6 => (if y4 = 0 then fX12_findReach_60 r2 r10 v1 v2 (((12 : Int32) * v1) + v2) sg5 lg6 else bnd3 (fX12_counts v2 sg5 lg6) (fun y9 sg10 lg11 => (if y9 = 0 then fX12_findReach_60 r2 r10 v1 v2 (((12 : Int32) * v1) + v2) sg10 lg11 else bnd3 (fX12_peckOf v1 v2 sg10 lg11) (fun y14 sg15 lg16 => (if y14 ≤ 0 then fX12_findReach_60 r2 r10 v1 v2 (((12 : Int32) * v1) + v2) sg15 lg16 else fX12_findReach_56 r2 r10 v1 v2 (((12 : Int32) * v1) + v2) sg15 lg16))))))))
set_option maxHeartbeats 4000000 in
set_option maxRecDepth 100000 in
theorem tX12_findReach_10 (C : Cx p s m args meth c cX12_findReach 4 RX12 wsX12_findReach none D vwCl (tysM T) A false []) {so : Sg} {lo : Lg} {r2 : (Int32 × Sg × Lg) → Option (Sg × Lg)} {r10 : (Int32 × Int32 × Sg × Lg) → Option (Sg × Lg)} (hr2 : ∀ (v1 : Int32) (sg : Sg) (lg : Lg), r2 (v1, sg, lg) = some (so, lo) → ∀ (H : Heap) (locs : List Loc) (ls : Array Slot), WS ZM D vwCl T ad sg lg A s.heap H locs → lv_has ls 4 [(0, .ref (ad 0)), (1, .int v1)] → W p l e rmX12_findReach s m args below meth c H locs 0 0 (MQ below (QV ZM D vwCl T (tysM T) A (fun z => ad = z) so lo) args s 0 0 A) (F0 m 2 ls [])) (hr10 : ∀ (v1 : Int32) (v2 : Int32) (sg : Sg) (lg : Lg), r10 (v1, v2, sg, lg) = some (so, lo) → ∀ (H : Heap) (locs : List Loc) (ls : Array Slot), WS ZM D vwCl T ad sg lg A s.heap H locs → lv_has ls 4 [(0, .ref (ad 0)), (1, .int v1), (2, .int v2)] → W p l e rmX12_findReach s m args below meth c H locs 0 0 (MQ below (QV ZM D vwCl T (tysM T) A (fun z => ad = z) so lo) args s 0 0 A) (F0 m 10 ls [])) : ∀ (v1 : Int32) (v2 : Int32) (sg : Sg) (lg : Lg), ∀ (H : Heap) (locs : List Loc) (ls : Array Slot), WS ZM D vwCl T ad sg lg A s.heap H locs → lv_has ls 4 [(0, .ref (ad 0)), (1, .int v1), (2, .int v2)] → fX12_findReach_10 r2 r10 v1 v2 sg lg = some (so, lo) → W p l e rmX12_findReach s m args below meth c H locs 0 0 (MQ below (QV ZM D vwCl T (tysM T) A (fun z => ad = z) so lo) args s 0 0 A) (F0 m 10 ls []) := by
  obtain ⟨⟨hx, hb, hml, hown, hts⟩, hr, hlk, hK, hA, hsp⟩ := id C
  intro v1 v2 sg lg H locs ls hw hl h
  unfold fX12_findReach_10 at h
  refine lv_iload_n hx hb dX12_findReach_10 rfl (lv_at hl 2 rfl) ?_
  refine lv_bipush (v := (12 : Int32)) hx hb dX12_findReach_11 (by decide) ?_
  refine lv_icmp_ge (tgt := 68) hx hb dX12_findReach_13 (by decide) (fun c1 => ?_) (fun c1 => ?_)
  · replace h := ite_t h c1
    obtain ⟨x2, ex2⟩ : ∃ z : Int32, z = (v1 + (1 : Int32)) := ⟨_, rfl⟩
    replace h := lt_get h x2 ex2
    refine lv_iinc (v := x2) (lv' := [(1, .int x2), (0, .ref (ad 0)), (2, .int v2)]) hx hb dX12_findReach_68 hl (k := 1) rfl (by rw [ex2]; rfl) (by decide) rfl (fun ls hl => ?_)
    refine lv_goto (tgt := 2) hx hb dX12_findReach_71 (by decide) ?_
    exact hr2 x2 sg lg h _ _ _ hw (lv_sub hl [1, 0] rfl)
  · replace h := ite_f h c1
    refine lv_aload_n hx hb dX12_findReach_16 rfl (lv_at hl 0 rfl) ?_
    refine r_getR (ci := 12) (C := RX12) (U := TX12) (N := 18) hx hb hts kX12_findReach_iX12 hown hK hw 0 (by decide) rfl rfl 12 (by decide) 8 rfl (hts _ kX12_findReach_f34) (fun _ h9 => h9) dX12_findReach_17 ?_
    refine lv_bipush (v := (12 : Int32)) hx hb dX12_findReach_20 (by decide) ?_
    refine lv_iload_n hx hb dX12_findReach_22 rfl (lv_at hl 1 rfl) ?_
    refine lv_imul hx hb dX12_findReach_23 ?_
    refine lv_iload_n hx hb dX12_findReach_24 rfl (lv_at hl 2 rfl) ?_
    refine lv_iadd hx hb dX12_findReach_25 ?_
    refine lv_iload_n hx hb dX12_findReach_26 rfl (lv_at hl 1 rfl) ?_
    refine lv_iload_n hx hb dX12_findReach_27 rfl (lv_at hl 2 rfl) ?_
    refine lv_icmp_eq (tgt := 56) hx hb dX12_findReach_28 (by decide) (fun c3 => ?_) (fun c3 => ?_)
    · replace h := ite_t h c3
      exact tX12_findReach_56 C hr2 hr10 v1 v2 (((12 : Int32) * v1) + v2) sg lg _ _ _ hw (lv_sub hl [0, 1, 2] rfl) h
    · replace h := ite_f h c3
      refine lv_aload_n hx hb dX12_findReach_31 rfl (lv_at hl 0 rfl) ?_
      refine lv_iload_n hx hb dX12_findReach_32 rfl (lv_at hl 1 rfl) ?_
      obtain ⟨y4, sg5, lg6, hq7, h2⟩ := bnd3_some h
      replace h := h2
      clear h2
      refine r_cVi (As := [.int v1]) (rest := [.int (((12 : Int32) * v1) + v2), .ref (ad 8)]) C hw 0 (by decide) (ci := 12) rfl rfl (mX12_counts l D T ad  H.size v1 sg lg hq7) (cwV 1 hts gX12_findReach_X12_counts rfl rfl rfl (by decide +kernel) ⟨Nat.le_of_ble_eq_true rfl, Nat.le_of_ble_eq_true rfl⟩) rfl hl.1 rfl (Nat.le_of_ble_eq_true rfl) dX12_findReach_33 ⟨Nat.le_of_ble_eq_true rfl, Nat.le_of_ble_eq_true rfl⟩ (fun ad' H locs hp hw => ?_)
      subst hp
      refine W.widen (k := 0) (n := 0) (by decide) (by decide) ?_
      refine lv_if_eq (tgt := 60) hx hb dX12_findReach_36 (by decide) (fun c8 => ?_) (fun c8 => ?_)
      · replace h := ite_t h c8
        exact tX12_findReach_60 C hr2 hr10 v1 v2 (((12 : Int32) * v1) + v2) sg5 lg6 _ _ _ hw (lv_sub hl [0, 1, 2] rfl) h
      · replace h := ite_f h c8
        refine lv_aload_n hx hb dX12_findReach_39 rfl (lv_at hl 0 rfl) ?_
        refine lv_iload_n hx hb dX12_findReach_40 rfl (lv_at hl 2 rfl) ?_
        obtain ⟨y9, sg10, lg11, hq12, h2⟩ := bnd3_some h
        replace h := h2
        clear h2
        refine r_cVi (As := [.int v2]) (rest := [.int (((12 : Int32) * v1) + v2), .ref (ad 8)]) C hw 0 (by decide) (ci := 12) rfl rfl (mX12_counts l D T ad  H.size v2 sg5 lg6 hq12) (cwV 1 hts gX12_findReach_X12_counts rfl rfl rfl (by decide +kernel) ⟨Nat.le_of_ble_eq_true rfl, Nat.le_of_ble_eq_true rfl⟩) rfl hl.1 rfl (Nat.le_of_ble_eq_true rfl) dX12_findReach_41 ⟨Nat.le_of_ble_eq_true rfl, Nat.le_of_ble_eq_true rfl⟩ (fun ad' H locs hp hw => ?_)
        subst hp
        refine W.widen (k := 0) (n := 0) (by decide) (by decide) ?_
        refine lv_if_eq (tgt := 60) hx hb dX12_findReach_44 (by decide) (fun c13 => ?_) (fun c13 => ?_)
        · replace h := ite_t h c13
          exact tX12_findReach_60 C hr2 hr10 v1 v2 (((12 : Int32) * v1) + v2) sg10 lg11 _ _ _ hw (lv_sub hl [0, 1, 2] rfl) h
        · replace h := ite_f h c13
          refine lv_aload_n hx hb dX12_findReach_47 rfl (lv_at hl 0 rfl) ?_
          refine lv_iload_n hx hb dX12_findReach_48 rfl (lv_at hl 1 rfl) ?_
          refine lv_iload_n hx hb dX12_findReach_49 rfl (lv_at hl 2 rfl) ?_
          obtain ⟨y14, sg15, lg16, hq17, h2⟩ := bnd3_some h
          replace h := h2
          clear h2
          refine r_cVi (As := [.int v1, .int v2]) (rest := [.int (((12 : Int32) * v1) + v2), .ref (ad 8)]) C hw 0 (by decide) (ci := 12) rfl rfl (mX12_peckOf l D T ad  H.size v1 v2 sg10 lg11 hq17) (cwV 2 hts gX12_findReach_X12_peckOf rfl rfl rfl (by decide +kernel) ⟨Nat.le_of_ble_eq_true rfl, Nat.le_of_ble_eq_true rfl⟩) rfl hl.1 rfl (Nat.le_of_ble_eq_true rfl) dX12_findReach_50 ⟨Nat.le_of_ble_eq_true rfl, Nat.le_of_ble_eq_true rfl⟩ (fun ad' H locs hp hw => ?_)
          subst hp
          refine W.widen (k := 0) (n := 0) (by decide) (by decide) ?_
          refine lv_if_le (tgt := 60) hx hb dX12_findReach_53 (by decide) (fun c18 => ?_) (fun c18 => ?_)
          · replace h := ite_t h c18
            exact tX12_findReach_60 C hr2 hr10 v1 v2 (((12 : Int32) * v1) + v2) sg15 lg16 _ _ _ hw (lv_sub hl [0, 1, 2] rfl) h
          · replace h := ite_f h c18
            exact tX12_findReach_56 C hr2 hr10 v1 v2 (((12 : Int32) * v1) + v2) sg15 lg16 _ _ _ hw (lv_sub hl [0, 1, 2] rfl) h
def LX12_findReach_10 (r2 : (Int32 × Sg × Lg) → Option (Sg × Lg)) : (Int32 × Int32 × Sg × Lg) → Option (Sg × Lg) := loop (fun rec z => fX12_findReach_10 r2 rec z.1 z.2.1 z.2.2.1 z.2.2.2)
theorem TX12_findReach_10 (C : Cx p s m args meth c cX12_findReach 4 RX12 wsX12_findReach none D vwCl (tysM T) A false []) {so : Sg} {lo : Lg} {r2 : (Int32 × Sg × Lg) → Option (Sg × Lg)} (hr2 : ∀ (v1 : Int32) (sg : Sg) (lg : Lg), r2 (v1, sg, lg) = some (so, lo) → ∀ (H : Heap) (locs : List Loc) (ls : Array Slot), WS ZM D vwCl T ad sg lg A s.heap H locs → lv_has ls 4 [(0, .ref (ad 0)), (1, .int v1)] → W p l e rmX12_findReach s m args below meth c H locs 0 0 (MQ below (QV ZM D vwCl T (tysM T) A (fun z => ad = z) so lo) args s 0 0 A) (F0 m 2 ls [])) : ∀ (v1 : Int32) (v2 : Int32) (sg : Sg) (lg : Lg), LX12_findReach_10 r2 (v1, v2, sg, lg) = some (so, lo) → ∀ (H : Heap) (locs : List Loc) (ls : Array Slot), WS ZM D vwCl T ad sg lg A s.heap H locs → lv_has ls 4 [(0, .ref (ad 0)), (1, .int v1), (2, .int v2)] → W p l e rmX12_findReach s m args below meth c H locs 0 0 (MQ below (QV ZM D vwCl T (tysM T) A (fun z => ad = z) so lo) args s 0 0 A) (F0 m 10 ls []) := by
  have key : ∀ z : (Int32 × Int32 × Sg × Lg), LX12_findReach_10 r2 z = some (so, lo) → ∀ (H : Heap) (locs : List Loc) (ls : Array Slot), WS ZM D vwCl T ad z.2.2.1 z.2.2.2 A s.heap H locs → lv_has ls 4 [(0, .ref (ad 0)), (1, .int z.1), (2, .int z.2.1)] → W p l e rmX12_findReach s m args below meth c H locs 0 0 (MQ below (QV ZM D vwCl T (tysM T) A (fun z => ad = z) so lo) args s 0 0 A) (F0 m 10 ls []) := by
    intro z h
    unfold LX12_findReach_10 at h
    exact loop_ind (fun rec z => fX12_findReach_10 r2 rec z.1 z.2.1 z.2.2.1 z.2.2.2) (y := (so, lo)) (P := fun z => ∀ (H : Heap) (locs : List Loc) (ls : Array Slot), WS ZM D vwCl T ad z.2.2.1 z.2.2.2 A s.heap H locs → lv_has ls 4 [(0, .ref (ad 0)), (1, .int z.1), (2, .int z.2.1)] → W p l e rmX12_findReach s m args below meth c H locs 0 0 (MQ below (QV ZM D vwCl T (tysM T) A (fun z => ad = z) so lo) args s 0 0 A) (F0 m 10 ls [])) (fun rec hrec z h H locs ls hw hl => tX12_findReach_10 C hr2 (fun v1 v2 sg lg => hrec (v1, v2, sg, lg)) z.1 z.2.1 z.2.2.1 z.2.2.2 H locs ls hw hl h) z h
  exact fun v1 v2 sg lg => key (v1, v2, sg, lg)
def fX12_findReach_2 (r2 : (Int32 × Sg × Lg) → Option (Sg × Lg)) (v1 : Int32) (sg : Sg) (lg : Lg) : Option (Sg × Lg) :=
  (if (12 : Int32) ≤ v1 then LX12_findReach_76 ((0 : Int32), sg, lg) else LX12_findReach_10 r2 (v1, (0 : Int32), sg, lg))
set_option maxHeartbeats 4000000 in
set_option maxRecDepth 100000 in
theorem tX12_findReach_2 (C : Cx p s m args meth c cX12_findReach 4 RX12 wsX12_findReach none D vwCl (tysM T) A false []) {so : Sg} {lo : Lg} {r2 : (Int32 × Sg × Lg) → Option (Sg × Lg)} (hr2 : ∀ (v1 : Int32) (sg : Sg) (lg : Lg), r2 (v1, sg, lg) = some (so, lo) → ∀ (H : Heap) (locs : List Loc) (ls : Array Slot), WS ZM D vwCl T ad sg lg A s.heap H locs → lv_has ls 4 [(0, .ref (ad 0)), (1, .int v1)] → W p l e rmX12_findReach s m args below meth c H locs 0 0 (MQ below (QV ZM D vwCl T (tysM T) A (fun z => ad = z) so lo) args s 0 0 A) (F0 m 2 ls [])) : ∀ (v1 : Int32) (sg : Sg) (lg : Lg), ∀ (H : Heap) (locs : List Loc) (ls : Array Slot), WS ZM D vwCl T ad sg lg A s.heap H locs → lv_has ls 4 [(0, .ref (ad 0)), (1, .int v1)] → fX12_findReach_2 r2 v1 sg lg = some (so, lo) → W p l e rmX12_findReach s m args below meth c H locs 0 0 (MQ below (QV ZM D vwCl T (tysM T) A (fun z => ad = z) so lo) args s 0 0 A) (F0 m 2 ls []) := by
  obtain ⟨⟨hx, hb, hml, hown, hts⟩, hr, hlk, hK, hA, hsp⟩ := id C
  intro v1 sg lg H locs ls hw hl h
  unfold fX12_findReach_2 at h
  refine lv_iload_n hx hb dX12_findReach_2 rfl (lv_at hl 1 rfl) ?_
  refine lv_bipush (v := (12 : Int32)) hx hb dX12_findReach_3 (by decide) ?_
  refine lv_icmp_ge (tgt := 74) hx hb dX12_findReach_5 (by decide) (fun c1 => ?_) (fun c1 => ?_)
  · replace h := ite_t h c1
    refine lv_iconst (v := (0 : Int32)) hx hb dX12_findReach_74 (by decide) ?_
    refine lv_istore_n (lv' := [(1, .int (0 : Int32)), (0, .ref (ad 0))]) hx hb dX12_findReach_75 rfl hl (by decide) rfl (fun ls hl => ?_)
    exact TX12_findReach_76 C (0 : Int32) sg lg h _ _ _ hw (lv_sub hl [1, 0] rfl)
  · replace h := ite_f h c1
    refine lv_iconst (v := (0 : Int32)) hx hb dX12_findReach_8 (by decide) ?_
    refine lv_istore_n (lv' := [(2, .int (0 : Int32)), (0, .ref (ad 0)), (1, .int v1)]) hx hb dX12_findReach_9 rfl hl (by decide) rfl (fun ls hl => ?_)
    exact TX12_findReach_10 C hr2 v1 (0 : Int32) sg lg h _ _ _ hw (lv_sub hl [1, 2, 0] rfl)
def LX12_findReach_2  : (Int32 × Sg × Lg) → Option (Sg × Lg) := loop (fun rec z => fX12_findReach_2 rec z.1 z.2.1 z.2.2)
theorem TX12_findReach_2 (C : Cx p s m args meth c cX12_findReach 4 RX12 wsX12_findReach none D vwCl (tysM T) A false []) {so : Sg} {lo : Lg}   : ∀ (v1 : Int32) (sg : Sg) (lg : Lg), LX12_findReach_2 (v1, sg, lg) = some (so, lo) → ∀ (H : Heap) (locs : List Loc) (ls : Array Slot), WS ZM D vwCl T ad sg lg A s.heap H locs → lv_has ls 4 [(0, .ref (ad 0)), (1, .int v1)] → W p l e rmX12_findReach s m args below meth c H locs 0 0 (MQ below (QV ZM D vwCl T (tysM T) A (fun z => ad = z) so lo) args s 0 0 A) (F0 m 2 ls []) := by
  have key : ∀ z : (Int32 × Sg × Lg), LX12_findReach_2  z = some (so, lo) → ∀ (H : Heap) (locs : List Loc) (ls : Array Slot), WS ZM D vwCl T ad z.2.1 z.2.2 A s.heap H locs → lv_has ls 4 [(0, .ref (ad 0)), (1, .int z.1)] → W p l e rmX12_findReach s m args below meth c H locs 0 0 (MQ below (QV ZM D vwCl T (tysM T) A (fun z => ad = z) so lo) args s 0 0 A) (F0 m 2 ls []) := by
    intro z h
    unfold LX12_findReach_2 at h
    exact loop_ind (fun rec z => fX12_findReach_2 rec z.1 z.2.1 z.2.2) (y := (so, lo)) (P := fun z => ∀ (H : Heap) (locs : List Loc) (ls : Array Slot), WS ZM D vwCl T ad z.2.1 z.2.2 A s.heap H locs → lv_has ls 4 [(0, .ref (ad 0)), (1, .int z.1)] → W p l e rmX12_findReach s m args below meth c H locs 0 0 (MQ below (QV ZM D vwCl T (tysM T) A (fun z => ad = z) so lo) args s 0 0 A) (F0 m 2 ls [])) (fun rec hrec z h H locs ls hw hl => tX12_findReach_2 C  (fun v1 sg lg => hrec (v1, sg, lg)) z.1 z.2.1 z.2.2 H locs ls hw hl h) z h
  exact fun v1 sg lg => key (v1, sg, lg)
def fX12_findReach  (sg : Sg) (lg : Lg) : Option (Sg × Lg) :=
  LX12_findReach_2 ((0 : Int32), sg, lg)
set_option maxHeartbeats 4000000 in
set_option maxRecDepth 100000 in
theorem tX12_findReach_0 (C : Cx p s m args meth c cX12_findReach 4 RX12 wsX12_findReach none D vwCl (tysM T) A false []) {so : Sg} {lo : Lg}   : ∀ (sg : Sg) (lg : Lg), ∀ (H : Heap) (locs : List Loc) (ls : Array Slot), WS ZM D vwCl T ad sg lg A s.heap H locs → lv_has ls 4 [(0, .ref (ad 0))] → fX12_findReach sg lg = some (so, lo) → W p l e rmX12_findReach s m args below meth c H locs 0 0 (MQ below (QV ZM D vwCl T (tysM T) A (fun z => ad = z) so lo) args s 0 0 A) (F0 m 0 ls []) := by
  obtain ⟨⟨hx, hb, hml, hown, hts⟩, hr, hlk, hK, hA, hsp⟩ := id C
  intro sg lg H locs ls hw hl h
  unfold fX12_findReach at h
  refine lv_iconst (v := (0 : Int32)) hx hb dX12_findReach_0 (by decide) ?_
  refine lv_istore_n (lv' := [(1, .int (0 : Int32)), (0, .ref (ad 0))]) hx hb dX12_findReach_1 rfl hl (by decide) rfl (fun ls hl => ?_)
  exact TX12_findReach_2 C (0 : Int32) sg lg h _ _ _ hw (lv_sub hl [1, 0] rfl)
theorem mX12_findReach (l : Launch) (D : va_G) (T : Nat → ClassId) (ad : Nat → Nat)  (sz : Nat)   (sg : Sg) (lg : Lg) {so : Sg} {lo : Lg} (h : fX12_findReach sg lg = some (so, lo)) : Met l yX12_findReach wsX12_findReach rmX12_findReach (PreZ ZM D vwCl T (tysM T) ad sg lg false [] [.ref (ad 0)] sz) (QV ZM D vwCl T (tysM T) (va_A (zwd ZM T ad sg lg) sz) (fun z => ad = z) so lo) 0 0 (va_A (zwd ZM T ad sg lg) sz) :=
  metZ [.ref (ad 0)] sz (by decide) rfl (Nat.le_of_ble_eq_true rfl) (fun p e s m below meth c ls C hw hl => tX12_findReach_0 C sg lg _ _ _ hw hl h)
-- PeckYardModel.isOne(II)Z
def rmX12_isOne : Room := { frames := 0, cells := 0, slots := 0, locals := 0 }
theorem kX12_isOne_f34 : Cond.fieldLink RX12 34 "PeckYardModel" "reaches" "[Z" ∈ wsX12_isOne := by decide +kernel
theorem kX12_isOne_iX12 : ∀ w ∈ u_ws RX12 TX12 18, w ∈ wsX12_isOne := by decide +kernel
def fX12_isOne  (v1 : Int32) (v2 : Int32) (sg : Sg) (lg : Lg) : Option (Int32 × Sg × Lg) :=
  lt (((12 : Int32) * v1) + v2) (fun x1 => gin x1 144 ((if (sg 8 x1.toNatClampNeg) = 0 then some ((0 : Int32), sg, lg) else lt (((12 : Int32) * v2) + v1) (fun x4 => gin x4 144 ((if (sg 8 x4.toNatClampNeg) = 0 then some ((0 : Int32), sg, lg) else some ((1 : Int32), sg, lg)))))))
set_option maxHeartbeats 4000000 in
set_option maxRecDepth 100000 in
theorem tX12_isOne_0 (C : Cx p s m args meth c cX12_isOne 3 RX12 wsX12_isOne (some .boolean) D vwCl (tysM T) A false []) {ro : Int32} {so : Sg} {lo : Lg}   : ∀ (v1 : Int32) (v2 : Int32) (sg : Sg) (lg : Lg), ∀ (H : Heap) (locs : List Loc) (ls : Array Slot), WS ZM D vwCl T ad sg lg A s.heap H locs → lv_has ls 3 [(0, .ref (ad 0)), (1, .int v1), (2, .int v2)] → fX12_isOne v1 v2 sg lg = some (ro, so, lo) → W p l e rmX12_isOne s m args below meth c H locs 0 0 (MQ below (QI ZM D vwCl T (tysM T) A (fun z => ad = z) ro so lo) args s 0 0 A) (F0 m 0 ls []) := by
  obtain ⟨⟨hx, hb, hml, hown, hts⟩, hr, hlk, hK, hA, hsp⟩ := id C
  intro v1 v2 sg lg H locs ls hw hl h
  unfold fX12_isOne at h
  refine lv_aload_n hx hb dX12_isOne_0 rfl (lv_at hl 0 rfl) ?_
  refine r_getR (ci := 12) (C := RX12) (U := TX12) (N := 18) hx hb hts kX12_isOne_iX12 hown hK hw 0 (by decide) rfl rfl 12 (by decide) 8 rfl (hts _ kX12_isOne_f34) (fun _ h9 => h9) dX12_isOne_1 ?_
  refine lv_bipush (v := (12 : Int32)) hx hb dX12_isOne_4 (by decide) ?_
  refine lv_iload_n hx hb dX12_isOne_6 rfl (lv_at hl 1 rfl) ?_
  refine lv_imul hx hb dX12_isOne_7 ?_
  refine lv_iload_n hx hb dX12_isOne_8 rfl (lv_at hl 2 rfl) ?_
  refine lv_iadd hx hb dX12_isOne_9 ?_
  refine lv_topi (fun x1 ex1 => ?_)
  replace h := lt_get h x1 ex1
  have hi2 := (gin_some h).1
  replace h := (gin_some h).2
  refine r_zald hx hb hK hw 8 1 144 (by decide) rfl rfl rfl hi2 dX12_isOne_10 ?_
  refine lv_if_eq (tgt := 32) hx hb dX12_isOne_11 (by decide) (fun c3 => ?_) (fun c3 => ?_)
  · replace h := ite_t h c3
    refine lv_iconst (v := (0 : Int32)) hx hb dX12_isOne_32 (by decide) ?_
    cases h
    exact r_zret C hw rfl (by decide) (by decide) (by decide) dX12_isOne_33
  · replace h := ite_f h c3
    refine lv_aload_n hx hb dX12_isOne_14 rfl (lv_at hl 0 rfl) ?_
    refine r_getR (ci := 12) (C := RX12) (U := TX12) (N := 18) hx hb hts kX12_isOne_iX12 hown hK hw 0 (by decide) rfl rfl 12 (by decide) 8 rfl (hts _ kX12_isOne_f34) (fun _ h9 => h9) dX12_isOne_15 ?_
    refine lv_bipush (v := (12 : Int32)) hx hb dX12_isOne_18 (by decide) ?_
    refine lv_iload_n hx hb dX12_isOne_20 rfl (lv_at hl 2 rfl) ?_
    refine lv_imul hx hb dX12_isOne_21 ?_
    refine lv_iload_n hx hb dX12_isOne_22 rfl (lv_at hl 1 rfl) ?_
    refine lv_iadd hx hb dX12_isOne_23 ?_
    refine lv_topi (fun x4 ex4 => ?_)
    replace h := lt_get h x4 ex4
    have hi5 := (gin_some h).1
    replace h := (gin_some h).2
    refine r_zald hx hb hK hw 8 1 144 (by decide) rfl rfl rfl hi5 dX12_isOne_24 ?_
    refine lv_if_eq (tgt := 32) hx hb dX12_isOne_25 (by decide) (fun c6 => ?_) (fun c6 => ?_)
    · replace h := ite_t h c6
      refine lv_iconst (v := (0 : Int32)) hx hb dX12_isOne_32 (by decide) ?_
      cases h
      exact r_zret C hw rfl (by decide) (by decide) (by decide) dX12_isOne_33
    · replace h := ite_f h c6
      refine lv_iconst (v := (1 : Int32)) hx hb dX12_isOne_28 (by decide) ?_
      refine lv_goto (tgt := 33) hx hb dX12_isOne_29 (by decide) ?_
      cases h
      exact r_zret C hw rfl (by decide) (by decide) (by decide) dX12_isOne_33
theorem mX12_isOne (l : Launch) (D : va_G) (T : Nat → ClassId) (ad : Nat → Nat)  (sz : Nat)   (v1 : Int32) (v2 : Int32) (sg : Sg) (lg : Lg) {ro : Int32} {so : Sg} {lo : Lg} (h : fX12_isOne v1 v2 sg lg = some (ro, so, lo)) : Met l yX12_isOne wsX12_isOne rmX12_isOne (PreZ ZM D vwCl T (tysM T) ad sg lg false [] [.ref (ad 0), .int v1, .int v2] sz) (QI ZM D vwCl T (tysM T) (va_A (zwd ZM T ad sg lg) sz) (fun z => ad = z) ro so lo) 0 0 (va_A (zwd ZM T ad sg lg) sz) :=
  metZ [.ref (ad 0), .int v1, .int v2] sz (by decide) rfl (Nat.le_of_ble_eq_true rfl) (fun p e s m below meth c ls C hw hl => tX12_isOne_0 C v1 v2 sg lg _ _ _ hw hl h)
-- PeckYardModel.isNext(I)Z
def rmX12_isNext : Room := { frames := 3, cells := 0, slots := 0, locals := 67 }
theorem kX12_isNext_f37 : Cond.fieldLink RX12 37 "PeckYardModel" "group" "[I" ∈ wsX12_isNext := by decide +kernel
theorem kX12_isNext_iX12 : ∀ w ∈ u_ws RX12 TX12 18, w ∈ wsX12_isNext := by decide +kernel
theorem kX12_isNext_f34 : Cond.fieldLink RX12 34 "PeckYardModel" "reaches" "[Z" ∈ wsX12_isNext := by decide +kernel
def fX12_isNext_80 (r23 : (Int32 × Int32 × Int32 × Sg × Lg) → Option (Int32 × Sg × Lg)) (v1 : Int32) (v3 : Int32) (w0 : Int32) (sg : Sg) (lg : Lg) : Option (Int32 × Sg × Lg) :=
  lt (v3 + (1 : Int32)) (fun x1 => r23 (v1, w0, x1, sg, lg))
set_option maxHeartbeats 4000000 in
set_option maxRecDepth 100000 in
theorem tX12_isNext_80 (C : Cx p s m args meth c cX12_isNext 4 RX12 wsX12_isNext (some .boolean) D vwCl (tysM T) A false []) {ro : Int32} {so : Sg} {lo : Lg} {r23 : (Int32 × Int32 × Int32 × Sg × Lg) → Option (Int32 × Sg × Lg)} (hr23 : ∀ (v1 : Int32) (v2 : Int32) (v3 : Int32) (sg : Sg) (lg : Lg), r23 (v1, v2, v3, sg, lg) = some (ro, so, lo) → ∀ (H : Heap) (locs : List Loc) (ls : Array Slot), WS ZM D vwCl T ad sg lg A s.heap H locs → lv_has ls 4 [(0, .ref (ad 0)), (1, .int v1), (2, .int v2), (3, .int v3)] → W p l e rmX12_isNext s m args below meth c H locs 0 0 (MQ below (QI ZM D vwCl T (tysM T) A (fun z => ad = z) ro so lo) args s 0 0 A) (F0 m 23 ls [])) : ∀ (v1 : Int32) (v3 : Int32) (w0 : Int32) (sg : Sg) (lg : Lg), ∀ (H : Heap) (locs : List Loc) (ls : Array Slot), WS ZM D vwCl T ad sg lg A s.heap H locs → lv_has ls 4 [(0, .ref (ad 0)), (1, .int v1), (3, .int v3)] → fX12_isNext_80 r23 v1 v3 w0 sg lg = some (ro, so, lo) → W p l e rmX12_isNext s m args below meth c H locs 0 0 (MQ below (QI ZM D vwCl T (tysM T) A (fun z => ad = z) ro so lo) args s 0 0 A) (F0 m 80 ls [.int w0]) := by
  obtain ⟨⟨hx, hb, hml, hown, hts⟩, hr, hlk, hK, hA, hsp⟩ := id C
  intro v1 v3 w0 sg lg H locs ls hw hl h
  unfold fX12_isNext_80 at h
  refine lv_istore_n (lv' := [(2, .int w0), (0, .ref (ad 0)), (1, .int v1), (3, .int v3)]) hx hb dX12_isNext_80 rfl hl (by decide) rfl (fun ls hl => ?_)
  obtain ⟨x1, ex1⟩ : ∃ z : Int32, z = (v3 + (1 : Int32)) := ⟨_, rfl⟩
  replace h := lt_get h x1 ex1
  refine lv_iinc (v := x1) (lv' := [(3, .int x1), (2, .int w0), (0, .ref (ad 0)), (1, .int v1)]) hx hb dX12_isNext_81 hl (k := 3) rfl (by rw [ex1]; rfl) (by decide) rfl (fun ls hl => ?_)
  refine lv_goto (tgt := 23) hx hb dX12_isNext_84 (by decide) ?_
  exact hr23 v1 w0 x1 sg lg h _ _ _ hw (lv_sub hl [2, 3, 1, 0] rfl)
def fX12_isNext_79 (r23 : (Int32 × Int32 × Int32 × Sg × Lg) → Option (Int32 × Sg × Lg)) (v1 : Int32) (v3 : Int32) (sg : Sg) (lg : Lg) : Option (Int32 × Sg × Lg) :=
  fX12_isNext_80 r23 v1 v3 (0 : Int32) sg lg
set_option maxHeartbeats 4000000 in
set_option maxRecDepth 100000 in
theorem tX12_isNext_79 (C : Cx p s m args meth c cX12_isNext 4 RX12 wsX12_isNext (some .boolean) D vwCl (tysM T) A false []) {ro : Int32} {so : Sg} {lo : Lg} {r23 : (Int32 × Int32 × Int32 × Sg × Lg) → Option (Int32 × Sg × Lg)} (hr23 : ∀ (v1 : Int32) (v2 : Int32) (v3 : Int32) (sg : Sg) (lg : Lg), r23 (v1, v2, v3, sg, lg) = some (ro, so, lo) → ∀ (H : Heap) (locs : List Loc) (ls : Array Slot), WS ZM D vwCl T ad sg lg A s.heap H locs → lv_has ls 4 [(0, .ref (ad 0)), (1, .int v1), (2, .int v2), (3, .int v3)] → W p l e rmX12_isNext s m args below meth c H locs 0 0 (MQ below (QI ZM D vwCl T (tysM T) A (fun z => ad = z) ro so lo) args s 0 0 A) (F0 m 23 ls [])) : ∀ (v1 : Int32) (v3 : Int32) (sg : Sg) (lg : Lg), ∀ (H : Heap) (locs : List Loc) (ls : Array Slot), WS ZM D vwCl T ad sg lg A s.heap H locs → lv_has ls 4 [(0, .ref (ad 0)), (1, .int v1), (3, .int v3)] → fX12_isNext_79 r23 v1 v3 sg lg = some (ro, so, lo) → W p l e rmX12_isNext s m args below meth c H locs 0 0 (MQ below (QI ZM D vwCl T (tysM T) A (fun z => ad = z) ro so lo) args s 0 0 A) (F0 m 79 ls []) := by
  obtain ⟨⟨hx, hb, hml, hown, hts⟩, hr, hlk, hK, hA, hsp⟩ := id C
  intro v1 v3 sg lg H locs ls hw hl h
  unfold fX12_isNext_79 at h
  refine lv_iconst (v := (0 : Int32)) hx hb dX12_isNext_79 (by decide) ?_
  exact tX12_isNext_80 C hr23 v1 v3 (0 : Int32) sg lg _ _ _ hw (lv_sub hl [0, 1, 2] rfl) h
def fX12_isNext_75 (r23 : (Int32 × Int32 × Int32 × Sg × Lg) → Option (Int32 × Sg × Lg)) (v1 : Int32) (v3 : Int32) (sg : Sg) (lg : Lg) : Option (Int32 × Sg × Lg) :=
  fX12_isNext_80 r23 v1 v3 (1 : Int32) sg lg
set_option maxHeartbeats 4000000 in
set_option maxRecDepth 100000 in
theorem tX12_isNext_75 (C : Cx p s m args meth c cX12_isNext 4 RX12 wsX12_isNext (some .boolean) D vwCl (tysM T) A false []) {ro : Int32} {so : Sg} {lo : Lg} {r23 : (Int32 × Int32 × Int32 × Sg × Lg) → Option (Int32 × Sg × Lg)} (hr23 : ∀ (v1 : Int32) (v2 : Int32) (v3 : Int32) (sg : Sg) (lg : Lg), r23 (v1, v2, v3, sg, lg) = some (ro, so, lo) → ∀ (H : Heap) (locs : List Loc) (ls : Array Slot), WS ZM D vwCl T ad sg lg A s.heap H locs → lv_has ls 4 [(0, .ref (ad 0)), (1, .int v1), (2, .int v2), (3, .int v3)] → W p l e rmX12_isNext s m args below meth c H locs 0 0 (MQ below (QI ZM D vwCl T (tysM T) A (fun z => ad = z) ro so lo) args s 0 0 A) (F0 m 23 ls [])) : ∀ (v1 : Int32) (v3 : Int32) (sg : Sg) (lg : Lg), ∀ (H : Heap) (locs : List Loc) (ls : Array Slot), WS ZM D vwCl T ad sg lg A s.heap H locs → lv_has ls 4 [(0, .ref (ad 0)), (1, .int v1), (3, .int v3)] → fX12_isNext_75 r23 v1 v3 sg lg = some (ro, so, lo) → W p l e rmX12_isNext s m args below meth c H locs 0 0 (MQ below (QI ZM D vwCl T (tysM T) A (fun z => ad = z) ro so lo) args s 0 0 A) (F0 m 75 ls []) := by
  obtain ⟨⟨hx, hb, hml, hown, hts⟩, hr, hlk, hK, hA, hsp⟩ := id C
  intro v1 v3 sg lg H locs ls hw hl h
  unfold fX12_isNext_75 at h
  refine lv_iconst (v := (1 : Int32)) hx hb dX12_isNext_75 (by decide) ?_
  refine lv_goto (tgt := 80) hx hb dX12_isNext_76 (by decide) ?_
  exact tX12_isNext_80 C hr23 v1 v3 (1 : Int32) sg lg _ _ _ hw (lv_sub hl [0, 1, 2] rfl) h
def fX12_isNext_23 (r23 : (Int32 × Int32 × Int32 × Sg × Lg) → Option (Int32 × Sg × Lg)) (v1 : Int32) (v2 : Int32) (v3 : Int32) (sg : Sg) (lg : Lg) : Option (Int32 × Sg × Lg) :=
  bnd3 (fX12_hens sg lg) (fun y1 sg2 lg3 => (if y1 ≤ v3 then gz v2 (some (v2, sg2, lg3)) else (if v2 = 0 then fX12_isNext_79 r23 v1 v3 sg2 lg3 else bnd3 (fX12_counts v3 sg2 lg3) (fun y8 sg9 lg10 => (if y8 = 0 then fX12_isNext_75 r23 v1 v3 sg9 lg10 else gin v3 12 ((if 0 ≤ (sg9 9 v3.toNatClampNeg) then fX12_isNext_75 r23 v1 v3 sg9 lg10 else bnd3 (fX12_isOne v3 v1 sg9 lg10) (fun y15 sg16 lg17 => (if y15 = 0 then lt (((12 : Int32) * v3) + v1) (fun x20 => gin x20 144 ((if (sg16 8 x20.toNatClampNeg) = 0 then fX12_isNext_75 r23 v1 v3 sg16 lg17 else fX12_isNext_79 r23 v1 v3 sg16 lg17))) else fX12_isNext_75 r23 v1 v3 sg16 lg17)))))))))
set_option maxHeartbeats 4000000 in
set_option maxRecDepth 100000 in
theorem tX12_isNext_23 (C : Cx p s m args meth c cX12_isNext 4 RX12 wsX12_isNext (some .boolean) D vwCl (tysM T) A false []) {ro : Int32} {so : Sg} {lo : Lg} {r23 : (Int32 × Int32 × Int32 × Sg × Lg) → Option (Int32 × Sg × Lg)} (hr23 : ∀ (v1 : Int32) (v2 : Int32) (v3 : Int32) (sg : Sg) (lg : Lg), r23 (v1, v2, v3, sg, lg) = some (ro, so, lo) → ∀ (H : Heap) (locs : List Loc) (ls : Array Slot), WS ZM D vwCl T ad sg lg A s.heap H locs → lv_has ls 4 [(0, .ref (ad 0)), (1, .int v1), (2, .int v2), (3, .int v3)] → W p l e rmX12_isNext s m args below meth c H locs 0 0 (MQ below (QI ZM D vwCl T (tysM T) A (fun z => ad = z) ro so lo) args s 0 0 A) (F0 m 23 ls [])) : ∀ (v1 : Int32) (v2 : Int32) (v3 : Int32) (sg : Sg) (lg : Lg), ∀ (H : Heap) (locs : List Loc) (ls : Array Slot), WS ZM D vwCl T ad sg lg A s.heap H locs → lv_has ls 4 [(0, .ref (ad 0)), (1, .int v1), (2, .int v2), (3, .int v3)] → fX12_isNext_23 r23 v1 v2 v3 sg lg = some (ro, so, lo) → W p l e rmX12_isNext s m args below meth c H locs 0 0 (MQ below (QI ZM D vwCl T (tysM T) A (fun z => ad = z) ro so lo) args s 0 0 A) (F0 m 23 ls []) := by
  obtain ⟨⟨hx, hb, hml, hown, hts⟩, hr, hlk, hK, hA, hsp⟩ := id C
  intro v1 v2 v3 sg lg H locs ls hw hl h
  unfold fX12_isNext_23 at h
  refine lv_iload_n hx hb dX12_isNext_23 rfl (lv_at hl 3 rfl) ?_
  refine lv_aload_n hx hb dX12_isNext_24 rfl (lv_at hl 0 rfl) ?_
  obtain ⟨y1, sg2, lg3, hq4, h2⟩ := bnd3_some h
  replace h := h2
  clear h2
  refine r_cVi (As := []) (rest := [.int v3]) C hw 0 (by decide) (ci := 12) rfl rfl (mX12_hens l D T ad  H.size sg lg hq4) (cwV 0 hts gX12_isNext_X12_hens rfl rfl rfl (by decide +kernel) ⟨Nat.le_of_ble_eq_true rfl, Nat.le_of_ble_eq_true rfl⟩) rfl hl.1 rfl (Nat.le_of_ble_eq_true rfl) dX12_isNext_25 ⟨Nat.le_of_ble_eq_true rfl, Nat.le_of_ble_eq_true rfl⟩ (fun ad' H locs hp hw => ?_)
  subst hp
  refine W.widen (k := 0) (n := 0) (by decide) (by decide) ?_
  refine lv_icmp_ge (tgt := 87) hx hb dX12_isNext_28 (by decide) (fun c5 => ?_) (fun c5 => ?_)
  · replace h := ite_t h c5
    refine lv_iload_n hx hb dX12_isNext_87 rfl (lv_at hl 2 rfl) ?_
    have hz6 := (gz_some h).1
    replace h := (gz_some h).2
    cases h
    exact r_zret C hw rfl hz6 (by decide) (by decide) dX12_isNext_88
  · replace h := ite_f h c5
    refine lv_iload_n hx hb dX12_isNext_31 rfl (lv_at hl 2 rfl) ?_
    refine lv_if_eq (tgt := 79) hx hb dX12_isNext_32 (by decide) (fun c7 => ?_) (fun c7 => ?_)
    · replace h := ite_t h c7
      exact tX12_isNext_79 C hr23 v1 v3 sg2 lg3 _ _ _ hw (lv_sub hl [0, 1, 3] rfl) h
    · replace h := ite_f h c7
      refine lv_aload_n hx hb dX12_isNext_35 rfl (lv_at hl 0 rfl) ?_
      refine lv_iload_n hx hb dX12_isNext_36 rfl (lv_at hl 3 rfl) ?_
      obtain ⟨y8, sg9, lg10, hq11, h2⟩ := bnd3_some h
      replace h := h2
      clear h2
      refine r_cVi (As := [.int v3]) (rest := []) C hw 0 (by decide) (ci := 12) rfl rfl (mX12_counts l D T ad  H.size v3 sg2 lg3 hq11) (cwV 1 hts gX12_isNext_X12_counts rfl rfl rfl (by decide +kernel) ⟨Nat.le_of_ble_eq_true rfl, Nat.le_of_ble_eq_true rfl⟩) rfl hl.1 rfl (Nat.le_of_ble_eq_true rfl) dX12_isNext_37 ⟨Nat.le_of_ble_eq_true rfl, Nat.le_of_ble_eq_true rfl⟩ (fun ad' H locs hp hw => ?_)
      subst hp
      refine W.widen (k := 0) (n := 0) (by decide) (by decide) ?_
      refine lv_if_eq (tgt := 75) hx hb dX12_isNext_40 (by decide) (fun c12 => ?_) (fun c12 => ?_)
      · replace h := ite_t h c12
        exact tX12_isNext_75 C hr23 v1 v3 sg9 lg10 _ _ _ hw (lv_sub hl [0, 1, 3] rfl) h
      · replace h := ite_f h c12
        refine lv_aload_n hx hb dX12_isNext_43 rfl (lv_at hl 0 rfl) ?_
        refine r_getR (ci := 12) (C := RX12) (U := TX12) (N := 18) hx hb hts kX12_isNext_iX12 hown hK hw 0 (by decide) rfl rfl 13 (by decide) 9 rfl (hts _ kX12_isNext_f37) (fun _ h9 => h9) dX12_isNext_44 ?_
        refine lv_iload_n hx hb dX12_isNext_47 rfl (lv_at hl 3 rfl) ?_
        have hi13 := (gin_some h).1
        replace h := (gin_some h).2
        refine r_iald hx hb hK hw 9 0 12 (by decide) rfl rfl rfl hi13 dX12_isNext_48 ?_
        refine lv_if_ge (tgt := 75) hx hb dX12_isNext_49 (by decide) (fun c14 => ?_) (fun c14 => ?_)
        · replace h := ite_t h c14
          exact tX12_isNext_75 C hr23 v1 v3 sg9 lg10 _ _ _ hw (lv_sub hl [0, 1, 3] rfl) h
        · replace h := ite_f h c14
          refine lv_aload_n hx hb dX12_isNext_52 rfl (lv_at hl 0 rfl) ?_
          refine lv_iload_n hx hb dX12_isNext_53 rfl (lv_at hl 3 rfl) ?_
          refine lv_iload_n hx hb dX12_isNext_54 rfl (lv_at hl 1 rfl) ?_
          obtain ⟨y15, sg16, lg17, hq18, h2⟩ := bnd3_some h
          replace h := h2
          clear h2
          refine r_cVi (As := [.int v3, .int v1]) (rest := []) C hw 0 (by decide) (ci := 12) rfl rfl (mX12_isOne l D T ad  H.size v3 v1 sg9 lg10 hq18) (cwV 2 hts gX12_isNext_X12_isOne rfl rfl rfl (by decide +kernel) ⟨Nat.le_of_ble_eq_true rfl, Nat.le_of_ble_eq_true rfl⟩) rfl hl.1 rfl (Nat.le_of_ble_eq_true rfl) dX12_isNext_55 ⟨Nat.le_of_ble_eq_true rfl, Nat.le_of_ble_eq_true rfl⟩ (fun ad' H locs hp hw => ?_)
          subst hp
          refine W.widen (k := 0) (n := 0) (by decide) (by decide) ?_
          refine lv_if_ne (tgt := 75) hx hb dX12_isNext_58 (by decide) (fun c19 => ?_) (fun c19 => ?_)
          · replace h := ite_f h c19
            exact tX12_isNext_75 C hr23 v1 v3 sg16 lg17 _ _ _ hw (lv_sub hl [0, 1, 3] rfl) h
          · replace h := ite_t h c19
            refine lv_aload_n hx hb dX12_isNext_61 rfl (lv_at hl 0 rfl) ?_
            refine r_getR (ci := 12) (C := RX12) (U := TX12) (N := 18) hx hb hts kX12_isNext_iX12 hown hK hw 0 (by decide) rfl rfl 12 (by decide) 8 rfl (hts _ kX12_isNext_f34) (fun _ h9 => h9) dX12_isNext_62 ?_
            refine lv_bipush (v := (12 : Int32)) hx hb dX12_isNext_65 (by decide) ?_
            refine lv_iload_n hx hb dX12_isNext_67 rfl (lv_at hl 3 rfl) ?_
            refine lv_imul hx hb dX12_isNext_68 ?_
            refine lv_iload_n hx hb dX12_isNext_69 rfl (lv_at hl 1 rfl) ?_
            refine lv_iadd hx hb dX12_isNext_70 ?_
            refine lv_topi (fun x20 ex20 => ?_)
            replace h := lt_get h x20 ex20
            have hi21 := (gin_some h).1
            replace h := (gin_some h).2
            refine r_zald hx hb hK hw 8 1 144 (by decide) rfl rfl rfl hi21 dX12_isNext_71 ?_
            refine lv_if_ne (tgt := 79) hx hb dX12_isNext_72 (by decide) (fun c22 => ?_) (fun c22 => ?_)
            · replace h := ite_f h c22
              exact tX12_isNext_79 C hr23 v1 v3 sg16 lg17 _ _ _ hw (lv_sub hl [0, 1, 3] rfl) h
            · replace h := ite_t h c22
              exact tX12_isNext_75 C hr23 v1 v3 sg16 lg17 _ _ _ hw (lv_sub hl [0, 1, 3] rfl) h
def LX12_isNext_23  : (Int32 × Int32 × Int32 × Sg × Lg) → Option (Int32 × Sg × Lg) := loop (fun rec z => fX12_isNext_23 rec z.1 z.2.1 z.2.2.1 z.2.2.2.1 z.2.2.2.2)
theorem TX12_isNext_23 (C : Cx p s m args meth c cX12_isNext 4 RX12 wsX12_isNext (some .boolean) D vwCl (tysM T) A false []) {ro : Int32} {so : Sg} {lo : Lg}   : ∀ (v1 : Int32) (v2 : Int32) (v3 : Int32) (sg : Sg) (lg : Lg), LX12_isNext_23 (v1, v2, v3, sg, lg) = some (ro, so, lo) → ∀ (H : Heap) (locs : List Loc) (ls : Array Slot), WS ZM D vwCl T ad sg lg A s.heap H locs → lv_has ls 4 [(0, .ref (ad 0)), (1, .int v1), (2, .int v2), (3, .int v3)] → W p l e rmX12_isNext s m args below meth c H locs 0 0 (MQ below (QI ZM D vwCl T (tysM T) A (fun z => ad = z) ro so lo) args s 0 0 A) (F0 m 23 ls []) := by
  have key : ∀ z : (Int32 × Int32 × Int32 × Sg × Lg), LX12_isNext_23  z = some (ro, so, lo) → ∀ (H : Heap) (locs : List Loc) (ls : Array Slot), WS ZM D vwCl T ad z.2.2.2.1 z.2.2.2.2 A s.heap H locs → lv_has ls 4 [(0, .ref (ad 0)), (1, .int z.1), (2, .int z.2.1), (3, .int z.2.2.1)] → W p l e rmX12_isNext s m args below meth c H locs 0 0 (MQ below (QI ZM D vwCl T (tysM T) A (fun z => ad = z) ro so lo) args s 0 0 A) (F0 m 23 ls []) := by
    intro z h
    unfold LX12_isNext_23 at h
    exact loop_ind (fun rec z => fX12_isNext_23 rec z.1 z.2.1 z.2.2.1 z.2.2.2.1 z.2.2.2.2) (y := (ro, so, lo)) (P := fun z => ∀ (H : Heap) (locs : List Loc) (ls : Array Slot), WS ZM D vwCl T ad z.2.2.2.1 z.2.2.2.2 A s.heap H locs → lv_has ls 4 [(0, .ref (ad 0)), (1, .int z.1), (2, .int z.2.1), (3, .int z.2.2.1)] → W p l e rmX12_isNext s m args below meth c H locs 0 0 (MQ below (QI ZM D vwCl T (tysM T) A (fun z => ad = z) ro so lo) args s 0 0 A) (F0 m 23 ls [])) (fun rec hrec z h H locs ls hw hl => tX12_isNext_23 C  (fun v1 v2 v3 sg lg => hrec (v1, v2, v3, sg, lg)) z.1 z.2.1 z.2.2.1 z.2.2.2.1 z.2.2.2.2 H locs ls hw hl h) z h
  exact fun v1 v2 v3 sg lg => key (v1, v2, v3, sg, lg)
def fX12_isNext  (v1 : Int32) (sg : Sg) (lg : Lg) : Option (Int32 × Sg × Lg) :=
  bnd3 (fX12_counts v1 sg lg) (fun y1 sg2 lg3 => (if y1 = 0 then some ((0 : Int32), sg2, lg3) else gin v1 12 ((if (sg2 9 v1.toNatClampNeg) < 0 then LX12_isNext_23 (v1, (1 : Int32), (0 : Int32), sg2, lg3) else some ((0 : Int32), sg2, lg3)))))
set_option maxHeartbeats 4000000 in
set_option maxRecDepth 100000 in
theorem tX12_isNext_0 (C : Cx p s m args meth c cX12_isNext 4 RX12 wsX12_isNext (some .boolean) D vwCl (tysM T) A false []) {ro : Int32} {so : Sg} {lo : Lg}   : ∀ (v1 : Int32) (sg : Sg) (lg : Lg), ∀ (H : Heap) (locs : List Loc) (ls : Array Slot), WS ZM D vwCl T ad sg lg A s.heap H locs → lv_has ls 4 [(0, .ref (ad 0)), (1, .int v1)] → fX12_isNext v1 sg lg = some (ro, so, lo) → W p l e rmX12_isNext s m args below meth c H locs 0 0 (MQ below (QI ZM D vwCl T (tysM T) A (fun z => ad = z) ro so lo) args s 0 0 A) (F0 m 0 ls []) := by
  obtain ⟨⟨hx, hb, hml, hown, hts⟩, hr, hlk, hK, hA, hsp⟩ := id C
  intro v1 sg lg H locs ls hw hl h
  unfold fX12_isNext at h
  refine lv_aload_n hx hb dX12_isNext_0 rfl (lv_at hl 0 rfl) ?_
  refine lv_iload_n hx hb dX12_isNext_1 rfl (lv_at hl 1 rfl) ?_
  obtain ⟨y1, sg2, lg3, hq4, h2⟩ := bnd3_some h
  replace h := h2
  clear h2
  refine r_cVi (As := [.int v1]) (rest := []) C hw 0 (by decide) (ci := 12) rfl rfl (mX12_counts l D T ad  H.size v1 sg lg hq4) (cwV 1 hts gX12_isNext_X12_counts rfl rfl rfl (by decide +kernel) ⟨Nat.le_of_ble_eq_true rfl, Nat.le_of_ble_eq_true rfl⟩) rfl hl.1 rfl (Nat.le_of_ble_eq_true rfl) dX12_isNext_2 ⟨Nat.le_of_ble_eq_true rfl, Nat.le_of_ble_eq_true rfl⟩ (fun ad' H locs hp hw => ?_)
  subst hp
  refine W.widen (k := 0) (n := 0) (by decide) (by decide) ?_
  refine lv_if_eq (tgt := 17) hx hb dX12_isNext_5 (by decide) (fun c5 => ?_) (fun c5 => ?_)
  · replace h := ite_t h c5
    refine lv_iconst (v := (0 : Int32)) hx hb dX12_isNext_17 (by decide) ?_
    cases h
    exact r_zret C hw rfl (by decide) (by decide) (by decide) dX12_isNext_18
  · replace h := ite_f h c5
    refine lv_aload_n hx hb dX12_isNext_8 rfl (lv_at hl 0 rfl) ?_
    refine r_getR (ci := 12) (C := RX12) (U := TX12) (N := 18) hx hb hts kX12_isNext_iX12 hown hK hw 0 (by decide) rfl rfl 13 (by decide) 9 rfl (hts _ kX12_isNext_f37) (fun _ h9 => h9) dX12_isNext_9 ?_
    refine lv_iload_n hx hb dX12_isNext_12 rfl (lv_at hl 1 rfl) ?_
    have hi6 := (gin_some h).1
    replace h := (gin_some h).2
    refine r_iald hx hb hK hw 9 0 12 (by decide) rfl rfl rfl hi6 dX12_isNext_13 ?_
    refine lv_if_lt (tgt := 19) hx hb dX12_isNext_14 (by decide) (fun c7 => ?_) (fun c7 => ?_)
    · replace h := ite_t h c7
      refine lv_iconst (v := (1 : Int32)) hx hb dX12_isNext_19 (by decide) ?_
      refine lv_istore_n (lv' := [(2, .int (1 : Int32)), (0, .ref (ad 0)), (1, .int v1)]) hx hb dX12_isNext_20 rfl hl (by decide) rfl (fun ls hl => ?_)
      refine lv_iconst (v := (0 : Int32)) hx hb dX12_isNext_21 (by decide) ?_
      refine lv_istore_n (lv' := [(3, .int (0 : Int32)), (2, .int (1 : Int32)), (0, .ref (ad 0)), (1, .int v1)]) hx hb dX12_isNext_22 rfl hl (by decide) rfl (fun ls hl => ?_)
      exact TX12_isNext_23 C v1 (1 : Int32) (0 : Int32) sg2 lg3 h _ _ _ hw (lv_sub hl [2, 3, 1, 0] rfl)
    · replace h := ite_f h c7
      refine lv_iconst (v := (0 : Int32)) hx hb dX12_isNext_17 (by decide) ?_
      cases h
      exact r_zret C hw rfl (by decide) (by decide) (by decide) dX12_isNext_18
theorem mX12_isNext (l : Launch) (D : va_G) (T : Nat → ClassId) (ad : Nat → Nat)  (sz : Nat)   (v1 : Int32) (sg : Sg) (lg : Lg) {ro : Int32} {so : Sg} {lo : Lg} (h : fX12_isNext v1 sg lg = some (ro, so, lo)) : Met l yX12_isNext wsX12_isNext rmX12_isNext (PreZ ZM D vwCl T (tysM T) ad sg lg false [] [.ref (ad 0), .int v1] sz) (QI ZM D vwCl T (tysM T) (va_A (zwd ZM T ad sg lg) sz) (fun z => ad = z) ro so lo) 0 0 (va_A (zwd ZM T ad sg lg) sz) :=
  metZ [.ref (ad 0), .int v1] sz (by decide) rfl (Nat.le_of_ble_eq_true rfl) (fun p e s m below meth c ls C hw hl => tX12_isNext_0 C v1 sg lg _ _ _ hw hl h)
end ZM
