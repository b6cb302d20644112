section ZM
variable {p : Program} {l : Launch} {e : Env} {s : State} {m : MethodId} {args : Array Value} {below : List Frame} {meth : Method} {c : Code} {D : va_G} {T : Nat → ClassId} {A : Nat → Prop} {ad a : Nat → Nat}
-- PeckYardModel.fill(ZII)V
def rmX12_fill : Room := { frames := 7, cells := 0, slots := 0, locals := 163 }
theorem kX12_fill_f123 : Cond.fieldLink RX12 123 "PeckYardModel" "lawfully" "Z" ∈ wsX12_fill := by decide +kernel
theorem kX12_fill_iX12 : ∀ w ∈ u_ws RX12 TX12 18, w ∈ wsX12_fill := by decide +kernel
theorem kX12_fill_f120 : Cond.fieldLink RX12 120 "PeckYardModel" "upper" "I" ∈ wsX12_fill := by decide +kernel
theorem kX12_fill_f117 : Cond.fieldLink RX12 117 "PeckYardModel" "lower" "I" ∈ wsX12_fill := by decide +kernel
theorem kX12_fill_f20 : Cond.fieldLink RX12 20 "PeckYardModel" "leastOf" "[J" ∈ wsX12_fill := by decide +kernel
theorem kX12_fill_f24 : Cond.fieldLink RX12 24 "PeckYardModel" "waysOf" "[J" ∈ wsX12_fill := by decide +kernel
def fX12_fill_150 (r25 : (Int32 × Int32 × Sg × Lg) → Option (Sg × Lg)) (v4 : Int32) (v5 : Int32) (sg : Sg) (lg : Lg) : Option (Sg × Lg) :=
  lt (v5 + (-1 : Int32)) (fun x1 => r25 (v4, x1, sg, lg))
set_option maxHeartbeats 4000000 in
set_option maxRecDepth 100000 in
theorem tX12_fill_150 (C : Cx p s m args meth c cX12_fill 8 RX12 wsX12_fill none D vwCl (tysM T) A false []) {so : Sg} {lo : Lg} {r25 : (Int32 × Int32 × Sg × Lg) → Option (Sg × Lg)} (hr25 : ∀ (v4 : Int32) (v5 : Int32) (sg : Sg) (lg : Lg), r25 (v4, v5, sg, lg) = some (so, lo) → ∀ (H : Heap) (locs : List Loc) (ls : Array Slot), WS ZM D vwCl T ad sg lg A s.heap H locs → lv_has ls 8 [(0, .ref (ad 0)), (4, .int v4), (5, .int v5)] → W p l e rmX12_fill s m args below meth c H locs 0 0 (MQ below (QV ZM D vwCl T (tysM T) A (fun z => ad = z) so lo) args s 0 0 A) (F0 m 25 ls [])) : ∀ (v4 : Int32) (v5 : Int32) (sg : Sg) (lg : Lg), ∀ (H : Heap) (locs : List Loc) (ls : Array Slot), WS ZM D vwCl T ad sg lg A s.heap H locs → lv_has ls 8 [(0, .ref (ad 0)), (4, .int v4), (5, .int v5)] → fX12_fill_150 r25 v4 v5 sg lg = some (so, lo) → W p l e rmX12_fill s m args below meth c H locs 0 0 (MQ below (QV ZM D vwCl T (tysM T) A (fun z => ad = z) so lo) args s 0 0 A) (F0 m 150 ls []) := by
  obtain ⟨⟨hx, hb, hml, hown, hts⟩, hr, hlk, hK, hA, hsp⟩ := id C
  intro v4 v5 sg lg H locs ls hw hl h
  unfold fX12_fill_150 at h
  obtain ⟨x1, ex1⟩ : ∃ z : Int32, z = (v5 + (-1 : Int32)) := ⟨_, rfl⟩
  replace h := lt_get h x1 ex1
  refine lv_iinc (v := x1) (lv' := [(5, .int x1), (0, .ref (ad 0)), (4, .int v4)]) hx hb dX12_fill_150 hl (k := 2) rfl (by rw [ex1]; rfl) (by decide) rfl (fun ls hl => ?_)
  refine lv_goto (tgt := 25) hx hb dX12_fill_153 (by decide) ?_
  exact hr25 v4 x1 sg lg h _ _ _ hw (lv_sub hl [1, 2, 0] rfl)
def fX12_fill_144 (r25 : (Int32 × Int32 × Sg × Lg) → Option (Sg × Lg)) (r43 : (Int32 × Int32 × Int32 × Sg × Lg) → Option (Sg × Lg)) (v4 : Int32) (v5 : Int32) (v6 : Int32) (sg : Sg) (lg : Lg) : Option (Sg × Lg) :=
  lt (v6 + (1 : Int32)) (fun x1 => r43 (v4, v5, x1, sg, lg))
set_option maxHeartbeats 4000000 in
set_option maxRecDepth 100000 in
theorem tX12_fill_144 (C : Cx p s m args meth c cX12_fill 8 RX12 wsX12_fill none D vwCl (tysM T) A false []) {so : Sg} {lo : Lg} {r25 : (Int32 × Int32 × Sg × Lg) → Option (Sg × Lg)} {r43 : (Int32 × Int32 × Int32 × Sg × Lg) → Option (Sg × Lg)} (hr25 : ∀ (v4 : Int32) (v5 : Int32) (sg : Sg) (lg : Lg), r25 (v4, v5, sg, lg) = some (so, lo) → ∀ (H : Heap) (locs : List Loc) (ls : Array Slot), WS ZM D vwCl T ad sg lg A s.heap H locs → lv_has ls 8 [(0, .ref (ad 0)), (4, .int v4), (5, .int v5)] → W p l e rmX12_fill s m args below meth c H locs 0 0 (MQ below (QV ZM D vwCl T (tysM T) A (fun z => ad = z) so lo) args s 0 0 A) (F0 m 25 ls [])) (hr43 : ∀ (v4 : Int32) (v5 : Int32) (v6 : Int32) (sg : Sg) (lg : Lg), r43 (v4, v5, v6, sg, lg) = some (so, lo) → ∀ (H : Heap) (locs : List Loc) (ls : Array Slot), WS ZM D vwCl T ad sg lg A s.heap H locs → lv_has ls 8 [(0, .ref (ad 0)), (4, .int v4), (5, .int v5), (6, .int v6)] → W p l e rmX12_fill s m args below meth c H locs 0 0 (MQ below (QV ZM D vwCl T (tysM T) A (fun z => ad = z) so lo) args s 0 0 A) (F0 m 43 ls [])) : ∀ (v4 : Int32) (v5 : Int32) (v6 : Int32) (sg : Sg) (lg : Lg), ∀ (H : Heap) (locs : List Loc) (ls : Array Slot), WS ZM D vwCl T ad sg lg A s.heap H locs → lv_has ls 8 [(0, .ref (ad 0)), (4, .int v4), (5, .int v5), (6, .int v6)] → fX12_fill_144 r25 r43 v4 v5 v6 sg lg = some (so, lo) → W p l e rmX12_fill s m args below meth c H locs 0 0 (MQ below (QV ZM D vwCl T (tysM T) A (fun z => ad = z) so lo) args s 0 0 A) (F0 m 144 ls []) := by
  obtain ⟨⟨hx, hb, hml, hown, hts⟩, hr, hlk, hK, hA, hsp⟩ := id C
  intro v4 v5 v6 sg lg H locs ls hw hl h
  unfold fX12_fill_144 at h
  obtain ⟨x1, ex1⟩ : ∃ z : Int32, z = (v6 + (1 : Int32)) := ⟨_, rfl⟩
  replace h := lt_get h x1 ex1
  refine lv_iinc (v := x1) (lv' := [(6, .int x1), (0, .ref (ad 0)), (4, .int v4), (5, .int v5)]) hx hb dX12_fill_144 hl (k := 3) rfl (by rw [ex1]; rfl) (by decide) rfl (fun ls hl => ?_)
  refine lv_goto (tgt := 43) hx hb dX12_fill_147 (by decide) ?_
  exact hr43 v4 v5 x1 sg lg h _ _ _ hw (lv_sub hl [1, 2, 3, 0] rfl)
def fX12_fill_131 (r25 : (Int32 × Int32 × Sg × Lg) → Option (Sg × Lg)) (r43 : (Int32 × Int32 × Int32 × Sg × Lg) → Option (Sg × Lg)) (v4 : Int32) (v5 : Int32) (v6 : Int32) (v7 : Int32) (sg : Sg) (lg : Lg) : Option (Sg × Lg) :=
  (if v7 = 0 then fX12_fill_144 r25 r43 v4 v5 v6 sg lg else bnd2 (fX12_fillState v5 v6 sg lg) (fun sg2 lg3 => fX12_fill_144 r25 r43 v4 v5 v6 sg2 lg3))
set_option maxHeartbeats 4000000 in
set_option maxRecDepth 100000 in
theorem tX12_fill_131 (C : Cx p s m args meth c cX12_fill 8 RX12 wsX12_fill none D vwCl (tysM T) A false []) {so : Sg} {lo : Lg} {r25 : (Int32 × Int32 × Sg × Lg) → Option (Sg × Lg)} {r43 : (Int32 × Int32 × Int32 × Sg × Lg) → Option (Sg × Lg)} (hr25 : ∀ (v4 : Int32) (v5 : Int32) (sg : Sg) (lg : Lg), r25 (v4, v5, sg, lg) = some (so, lo) → ∀ (H : Heap) (locs : List Loc) (ls : Array Slot), WS ZM D vwCl T ad sg lg A s.heap H locs → lv_has ls 8 [(0, .ref (ad 0)), (4, .int v4), (5, .int v5)] → W p l e rmX12_fill s m args below meth c H locs 0 0 (MQ below (QV ZM D vwCl T (tysM T) A (fun z => ad = z) so lo) args s 0 0 A) (F0 m 25 ls [])) (hr43 : ∀ (v4 : Int32) (v5 : Int32) (v6 : Int32) (sg : Sg) (lg : Lg), r43 (v4, v5, v6, sg, lg) = some (so, lo) → ∀ (H : Heap) (locs : List Loc) (ls : Array Slot), WS ZM D vwCl T ad sg lg A s.heap H locs → lv_has ls 8 [(0, .ref (ad 0)), (4, .int v4), (5, .int v5), (6, .int v6)] → W p l e rmX12_fill s m args below meth c H locs 0 0 (MQ below (QV ZM D vwCl T (tysM T) A (fun z => ad = z) so lo) args s 0 0 A) (F0 m 43 ls [])) : ∀ (v4 : Int32) (v5 : Int32) (v6 : Int32) (v7 : Int32) (sg : Sg) (lg : Lg), ∀ (H : Heap) (locs : List Loc) (ls : Array Slot), WS ZM D vwCl T ad sg lg A s.heap H locs → lv_has ls 8 [(0, .ref (ad 0)), (4, .int v4), (5, .int v5), (6, .int v6), (7, .int v7)] → fX12_fill_131 r25 r43 v4 v5 v6 v7 sg lg = some (so, lo) → W p l e rmX12_fill s m args below meth c H locs 0 0 (MQ below (QV ZM D vwCl T (tysM T) A (fun z => ad = z) so lo) args s 0 0 A) (F0 m 131 ls []) := by
  obtain ⟨⟨hx, hb, hml, hown, hts⟩, hr, hlk, hK, hA, hsp⟩ := id C
  intro v4 v5 v6 v7 sg lg H locs ls hw hl h
  unfold fX12_fill_131 at h
  refine lv_iload hx hb dX12_fill_131 (lv_at hl 4 rfl) ?_
  refine lv_if_eq (tgt := 144) hx hb dX12_fill_133 (by decide) (fun c1 => ?_) (fun c1 => ?_)
  · replace h := ite_t h c1
    exact tX12_fill_144 C hr25 hr43 v4 v5 v6 sg lg _ _ _ hw (lv_sub hl [0, 1, 2, 3] rfl) h
  · replace h := ite_f h c1
    refine lv_aload_n hx hb dX12_fill_136 rfl (lv_at hl 0 rfl) ?_
    refine lv_iload hx hb dX12_fill_137 (lv_at hl 2 rfl) ?_
    refine lv_iload hx hb dX12_fill_139 (lv_at hl 3 rfl) ?_
    obtain ⟨sg2, lg3, hq4, h2⟩ := bnd2_some h
    replace h := h2
    clear h2
    refine r_cVv (As := [.int v5, .int v6]) (rest := []) C hw 0 (by decide) (ci := 12) rfl rfl (mX12_fillState l D T ad  H.size v5 v6 sg lg hq4) (cwV 2 hts gX12_fill_X12_fillState rfl rfl rfl (by decide +kernel) ⟨Nat.le_of_ble_eq_true rfl, Nat.le_of_ble_eq_true rfl⟩) rfl hl.1 rfl (Nat.le_of_ble_eq_true rfl) dX12_fill_141 ⟨Nat.le_of_ble_eq_true rfl, Nat.le_of_ble_eq_true rfl⟩ (fun ad' H locs hp hw => ?_)
    subst hp
    refine W.widen (k := 0) (n := 0) (by decide) (by decide) ?_
    exact tX12_fill_144 C hr25 hr43 v4 v5 v6 sg2 lg3 _ _ _ hw (lv_sub hl [0, 1, 2, 3] rfl) h
def fX12_fill_86 (r25 : (Int32 × Int32 × Sg × Lg) → Option (Sg × Lg)) (r43 : (Int32 × Int32 × Int32 × Sg × Lg) → Option (Sg × Lg)) (v4 : Int32) (v5 : Int32) (v6 : Int32) (w0 : Int32) (sg : Sg) (lg : Lg) : Option (Sg × Lg) :=
  (if w0 = 0 then fX12_fill_131 r25 r43 v4 v5 v6 w0 sg lg else (if v5 = v4 then gin (((13 : Int32) * v5) + v6) 53248 (lt (up2L lg 4 (((13 : Int32) * v5) + v6).toNatClampNeg (0 : Int64)) (fun lg4 => gin (((13 : Int32) * v5) + v6) 53248 (lt (up2L lg4 5 (((13 : Int32) * v5) + v6).toNatClampNeg (1 : Int64)) (fun lg6 => fX12_fill_144 r25 r43 v4 v5 v6 sg lg6)))) else fX12_fill_131 r25 r43 v4 v5 v6 w0 sg lg))
set_option maxHeartbeats 4000000 in
set_option maxRecDepth 100000 in
theorem tX12_fill_86 (C : Cx p s m args meth c cX12_fill 8 RX12 wsX12_fill none D vwCl (tysM T) A false []) {so : Sg} {lo : Lg} {r25 : (Int32 × Int32 × Sg × Lg) → Option (Sg × Lg)} {r43 : (Int32 × Int32 × Int32 × Sg × Lg) → Option (Sg × Lg)} (hr25 : ∀ (v4 : Int32) (v5 : Int32) (sg : Sg) (lg : Lg), r25 (v4, v5, sg, lg) = some (so, lo) → ∀ (H : Heap) (locs : List Loc) (ls : Array Slot), WS ZM D vwCl T ad sg lg A s.heap H locs → lv_has ls 8 [(0, .ref (ad 0)), (4, .int v4), (5, .int v5)] → W p l e rmX12_fill s m args below meth c H locs 0 0 (MQ below (QV ZM D vwCl T (tysM T) A (fun z => ad = z) so lo) args s 0 0 A) (F0 m 25 ls [])) (hr43 : ∀ (v4 : Int32) (v5 : Int32) (v6 : Int32) (sg : Sg) (lg : Lg), r43 (v4, v5, v6, sg, lg) = some (so, lo) → ∀ (H : Heap) (locs : List Loc) (ls : Array Slot), WS ZM D vwCl T ad sg lg A s.heap H locs → lv_has ls 8 [(0, .ref (ad 0)), (4, .int v4), (5, .int v5), (6, .int v6)] → W p l e rmX12_fill s m args below meth c H locs 0 0 (MQ below (QV ZM D vwCl T (tysM T) A (fun z => ad = z) so lo) args s 0 0 A) (F0 m 43 ls [])) : ∀ (v4 : Int32) (v5 : Int32) (v6 : Int32) (w0 : Int32) (sg : Sg) (lg : Lg), ∀ (H : Heap) (locs : List Loc) (ls : Array Slot), WS ZM D vwCl T ad sg lg A s.heap H locs → lv_has ls 8 [(0, .ref (ad 0)), (4, .int v4), (5, .int v5), (6, .int v6)] → fX12_fill_86 r25 r43 v4 v5 v6 w0 sg lg = some (so, lo) → W p l e rmX12_fill s m args below meth c H locs 0 0 (MQ below (QV ZM D vwCl T (tysM T) A (fun z => ad = z) so lo) args s 0 0 A) (F0 m 86 ls [.int w0]) := by
  obtain ⟨⟨hx, hb, hml, hown, hts⟩, hr, hlk, hK, hA, hsp⟩ := id C
  intro v4 v5 v6 w0 sg lg H locs ls hw hl h
  unfold fX12_fill_86 at h
  refine lv_istore (lv' := [(7, .int w0), (0, .ref (ad 0)), (4, .int v4), (5, .int v5), (6, .int v6)]) hx hb dX12_fill_86 hl (by decide) rfl (fun ls hl => ?_)
  refine lv_iload hx hb dX12_fill_88 (lv_at hl 0 rfl) ?_
  refine lv_if_eq (tgt := 131) hx hb dX12_fill_90 (by decide) (fun c1 => ?_) (fun c1 => ?_)
  · replace h := ite_t h c1
    exact tX12_fill_131 C hr25 hr43 v4 v5 v6 w0 sg lg _ _ _ hw (lv_sub hl [1, 2, 3, 4, 0] rfl) h
  · replace h := ite_f h c1
    refine lv_iload hx hb dX12_fill_93 (lv_at hl 3 rfl) ?_
    refine lv_iload hx hb dX12_fill_95 (lv_at hl 2 rfl) ?_
    refine lv_icmp_ne (tgt := 131) hx hb dX12_fill_97 (by decide) (fun c2 => ?_) (fun c2 => ?_)
    · replace h := ite_f h c2
      exact tX12_fill_131 C hr25 hr43 v4 v5 v6 w0 sg lg _ _ _ hw (lv_sub hl [1, 2, 3, 4, 0] rfl) h
    · replace h := ite_t h c2
      refine lv_aload_n hx hb dX12_fill_100 rfl (lv_at hl 1 rfl) ?_
      refine r_getR (ci := 12) (C := RX12) (U := TX12) (N := 18) hx hb hts kX12_fill_iX12 hown hK hw 0 (by decide) rfl rfl 5 (by decide) 4 rfl (hts _ kX12_fill_f20) (fun _ h9 => h9) dX12_fill_101 ?_
      refine lv_bipush (v := (13 : Int32)) hx hb dX12_fill_104 (by decide) ?_
      refine lv_iload hx hb dX12_fill_106 (lv_at hl 3 rfl) ?_
      refine lv_imul hx hb dX12_fill_108 ?_
      refine lv_iload hx hb dX12_fill_109 (lv_at hl 4 rfl) ?_
      refine lv_iadd hx hb dX12_fill_111 ?_
      refine lv_lconst (v := (0 : Int64)) hx hb dX12_fill_112 (by decide) ?_
      have hi3 := (gin_some h).1
      replace h := (gin_some h).2
      refine r_last hx hb hK hw 4 2 53248 (by decide) rfl rfl rfl hi3 dX12_fill_113 (fun H locs lg4 elg4 hw => ?_)
      replace h := lt_get h lg4 elg4
      refine lv_aload_n hx hb dX12_fill_114 rfl (lv_at hl 1 rfl) ?_
      refine r_getR (ci := 12) (C := RX12) (U := TX12) (N := 18) hx hb hts kX12_fill_iX12 hown hK hw 0 (by decide) rfl rfl 6 (by decide) 5 rfl (hts _ kX12_fill_f24) (fun _ h9 => h9) dX12_fill_115 ?_
      refine lv_bipush (v := (13 : Int32)) hx hb dX12_fill_118 (by decide) ?_
      refine lv_iload hx hb dX12_fill_120 (lv_at hl 3 rfl) ?_
      refine lv_imul hx hb dX12_fill_122 ?_
      refine lv_iload hx hb dX12_fill_123 (lv_at hl 4 rfl) ?_
      refine lv_iadd hx hb dX12_fill_125 ?_
      refine lv_lconst (v := (1 : Int64)) hx hb dX12_fill_126 (by decide) ?_
      have hi5 := (gin_some h).1
      replace h := (gin_some h).2
      refine r_last hx hb hK hw 5 2 53248 (by decide) rfl rfl rfl hi5 dX12_fill_127 (fun H locs lg6 elg6 hw => ?_)
      replace h := lt_get h lg6 elg6
      refine lv_goto (tgt := 144) hx hb dX12_fill_128 (by decide) ?_
      exact tX12_fill_144 C hr25 hr43 v4 v5 v6 sg lg6 _ _ _ hw (lv_sub hl [1, 2, 3, 4] rfl) h
def fX12_fill_43 (r25 : (Int32 × Int32 × Sg × Lg) → Option (Sg × Lg)) (r43 : (Int32 × Int32 × Int32 × Sg × Lg) → Option (Sg × Lg)) (v4 : Int32) (v5 : Int32) (v6 : Int32) (sg : Sg) (lg : Lg) : Option (Sg × Lg) :=
  (if (12 : Int32) < v6 then fX12_fill_150 r25 v4 v5 sg lg else (if v6 = (12 : Int32) then (if v5 = 0 then fX12_fill_86 r25 r43 v4 v5 v6 (1 : Int32) sg lg else fX12_fill_86 r25 r43 v4 v5 v6 (0 : Int32) sg lg) else (if ((v5 >>> (v6 &&& 31)) &&& (1 : Int32)) = (1 : Int32) then fX12_fill_86 r25 r43 v4 v5 v6 (1 : Int32) sg lg else fX12_fill_86 r25 r43 v4 v5 v6 (0 : Int32) sg lg)))
set_option maxHeartbeats 4000000 in
set_option maxRecDepth 100000 in
theorem tX12_fill_43 (C : Cx p s m args meth c cX12_fill 8 RX12 wsX12_fill none D vwCl (tysM T) A false []) {so : Sg} {lo : Lg} {r25 : (Int32 × Int32 × Sg × Lg) → Option (Sg × Lg)} {r43 : (Int32 × Int32 × Int32 × Sg × Lg) → Option (Sg × Lg)} (hr25 : ∀ (v4 : Int32) (v5 : Int32) (sg : Sg) (lg : Lg), r25 (v4, v5, sg, lg) = some (so, lo) → ∀ (H : Heap) (locs : List Loc) (ls : Array Slot), WS ZM D vwCl T ad sg lg A s.heap H locs → lv_has ls 8 [(0, .ref (ad 0)), (4, .int v4), (5, .int v5)] → W p l e rmX12_fill s m args below meth c H locs 0 0 (MQ below (QV ZM D vwCl T (tysM T) A (fun z => ad = z) so lo) args s 0 0 A) (F0 m 25 ls [])) (hr43 : ∀ (v4 : Int32) (v5 : Int32) (v6 : Int32) (sg : Sg) (lg : Lg), r43 (v4, v5, v6, sg, lg) = some (so, lo) → ∀ (H : Heap) (locs : List Loc) (ls : Array Slot), WS ZM D vwCl T ad sg lg A s.heap H locs → lv_has ls 8 [(0, .ref (ad 0)), (4, .int v4), (5, .int v5), (6, .int v6)] → W p l e rmX12_fill s m args below meth c H locs 0 0 (MQ below (QV ZM D vwCl T (tysM T) A (fun z => ad = z) so lo) args s 0 0 A) (F0 m 43 ls [])) : ∀ (v4 : Int32) (v5 : Int32) (v6 : Int32) (sg : Sg) (lg : Lg), ∀ (H : Heap) (locs : List Loc) (ls : Array Slot), WS ZM D vwCl T ad sg lg A s.heap H locs → lv_has ls 8 [(0, .ref (ad 0)), (4, .int v4), (5, .int v5), (6, .int v6)] → fX12_fill_43 r25 r43 v4 v5 v6 sg lg = some (so, lo) → W p l e rmX12_fill s m args below meth c H locs 0 0 (MQ below (QV ZM D vwCl T (tysM T) A (fun z => ad = z) so lo) args s 0 0 A) (F0 m 43 ls []) := by
  obtain ⟨⟨hx, hb, hml, hown, hts⟩, hr, hlk, hK, hA, hsp⟩ := id C
  intro v4 v5 v6 sg lg H locs ls hw hl h
  unfold fX12_fill_43 at h
  refine lv_iload hx hb dX12_fill_43 (lv_at hl 3 rfl) ?_
  refine lv_bipush (v := (12 : Int32)) hx hb dX12_fill_45 (by decide) ?_
  refine lv_icmp_gt (tgt := 150) hx hb dX12_fill_47 (by decide) (fun c1 => ?_) (fun c1 => ?_)
  · replace h := ite_t h c1
    exact tX12_fill_150 C hr25 v4 v5 sg lg _ _ _ hw (lv_sub hl [0, 1, 2] rfl) h
  · replace h := ite_f h c1
    refine lv_iload hx hb dX12_fill_50 (lv_at hl 3 rfl) ?_
    refine lv_bipush (v := (12 : Int32)) hx hb dX12_fill_52 (by decide) ?_
    refine lv_icmp_ne (tgt := 70) hx hb dX12_fill_54 (by decide) (fun c2 => ?_) (fun c2 => ?_)
    · replace h := ite_f h c2
      refine lv_iload hx hb dX12_fill_70 (lv_at hl 2 rfl) ?_
      refine lv_iload hx hb dX12_fill_72 (lv_at hl 3 rfl) ?_
      refine lv_ishr hx hb dX12_fill_74 ?_
      refine lv_iconst (v := (1 : Int32)) hx hb dX12_fill_75 (by decide) ?_
      refine lv_iand hx hb dX12_fill_76 ?_
      refine lv_iconst (v := (1 : Int32)) hx hb dX12_fill_77 (by decide) ?_
      refine lv_icmp_ne (tgt := 85) hx hb dX12_fill_78 (by decide) (fun c3 => ?_) (fun c3 => ?_)
      · replace h := ite_f h c3
        refine lv_iconst (v := (0 : Int32)) hx hb dX12_fill_85 (by decide) ?_
        exact tX12_fill_86 C hr25 hr43 v4 v5 v6 (0 : Int32) sg lg _ _ _ hw (lv_sub hl [0, 1, 2, 3] rfl) h
      · replace h := ite_t h c3
        refine lv_iconst (v := (1 : Int32)) hx hb dX12_fill_81 (by decide) ?_
        refine lv_goto (tgt := 86) hx hb dX12_fill_82 (by decide) ?_
        exact tX12_fill_86 C hr25 hr43 v4 v5 v6 (1 : Int32) sg lg _ _ _ hw (lv_sub hl [0, 1, 2, 3] rfl) h
    · replace h := ite_t h c2
      refine lv_iload hx hb dX12_fill_57 (lv_at hl 2 rfl) ?_
      refine lv_if_ne (tgt := 66) hx hb dX12_fill_59 (by decide) (fun c4 => ?_) (fun c4 => ?_)
      · replace h := ite_f h c4
        refine lv_iconst (v := (0 : Int32)) hx hb dX12_fill_66 (by decide) ?_
        refine lv_goto (tgt := 86) hx hb dX12_fill_67 (by decide) ?_
        exact tX12_fill_86 C hr25 hr43 v4 v5 v6 (0 : Int32) sg lg _ _ _ hw (lv_sub hl [0, 1, 2, 3] rfl) h
      · replace h := ite_t h c4
        refine lv_iconst (v := (1 : Int32)) hx hb dX12_fill_62 (by decide) ?_
        refine lv_goto (tgt := 86) hx hb dX12_fill_63 (by decide) ?_
        exact tX12_fill_86 C hr25 hr43 v4 v5 v6 (1 : Int32) sg lg _ _ _ hw (lv_sub hl [0, 1, 2, 3] rfl) h
def LX12_fill_43 (r25 : (Int32 × Int32 × Sg × Lg) → Option (Sg × Lg)) : (Int32 × Int32 × Int32 × Sg × Lg) → Option (Sg × Lg) := loop (fun rec z => fX12_fill_43 r25 rec z.1 z.2.1 z.2.2.1 z.2.2.2.1 z.2.2.2.2)
theorem TX12_fill_43 (C : Cx p s m args meth c cX12_fill 8 RX12 wsX12_fill none D vwCl (tysM T) A false []) {so : Sg} {lo : Lg} {r25 : (Int32 × Int32 × Sg × Lg) → Option (Sg × Lg)} (hr25 : ∀ (v4 : Int32) (v5 : Int32) (sg : Sg) (lg : Lg), r25 (v4, v5, sg, lg) = some (so, lo) → ∀ (H : Heap) (locs : List Loc) (ls : Array Slot), WS ZM D vwCl T ad sg lg A s.heap H locs → lv_has ls 8 [(0, .ref (ad 0)), (4, .int v4), (5, .int v5)] → W p l e rmX12_fill s m args below meth c H locs 0 0 (MQ below (QV ZM D vwCl T (tysM T) A (fun z => ad = z) so lo) args s 0 0 A) (F0 m 25 ls [])) : ∀ (v4 : Int32) (v5 : Int32) (v6 : Int32) (sg : Sg) (lg : Lg), LX12_fill_43 r25 (v4, v5, v6, sg, lg) = some (so, lo) → ∀ (H : Heap) (locs : List Loc) (ls : Array Slot), WS ZM D vwCl T ad sg lg A s.heap H locs → lv_has ls 8 [(0, .ref (ad 0)), (4, .int v4), (5, .int v5), (6, .int v6)] → W p l e rmX12_fill s m args below meth c H locs 0 0 (MQ below (QV ZM D vwCl T (tysM T) A (fun z => ad = z) so lo) args s 0 0 A) (F0 m 43 ls []) := by
  have key : ∀ z : (Int32 × Int32 × Int32 × Sg × Lg), LX12_fill_43 r25 z = some (so, lo) → ∀ (H : Heap) (locs : List Loc) (ls : Array Slot), WS ZM D vwCl T ad z.2.2.2.1 z.2.2.2.2 A s.heap H locs → lv_has ls 8 [(0, .ref (ad 0)), (4, .int z.1), (5, .int z.2.1), (6, .int z.2.2.1)] → W p l e rmX12_fill s m args below meth c H locs 0 0 (MQ below (QV ZM D vwCl T (tysM T) A (fun z => ad = z) so lo) args s 0 0 A) (F0 m 43 ls []) := by
    intro z h
    unfold LX12_fill_43 at h
    exact loop_ind (fun rec z => fX12_fill_43 r25 rec z.1 z.2.1 z.2.2.1 z.2.2.2.1 z.2.2.2.2) (y := (so, lo)) (P := fun z => ∀ (H : Heap) (locs : List Loc) (ls : Array Slot), WS ZM D vwCl T ad z.2.2.2.1 z.2.2.2.2 A s.heap H locs → lv_has ls 8 [(0, .ref (ad 0)), (4, .int z.1), (5, .int z.2.1), (6, .int z.2.2.1)] → W p l e rmX12_fill s m args below meth c H locs 0 0 (MQ below (QV ZM D vwCl T (tysM T) A (fun z => ad = z) so lo) args s 0 0 A) (F0 m 43 ls [])) (fun rec hrec z h H locs ls hw hl => tX12_fill_43 C hr25 (fun v4 v5 v6 sg lg => hrec (v4, v5, v6, sg, lg)) z.1 z.2.1 z.2.2.1 z.2.2.2.1 z.2.2.2.2 H locs ls hw hl h) z h
  exact fun v4 v5 v6 sg lg => key (v4, v5, v6, sg, lg)
def fX12_fill_25 (r25 : (Int32 × Int32 × Sg × Lg) → Option (Sg × Lg)) (v4 : Int32) (v5 : Int32) (sg : Sg) (lg : Lg) : Option (Sg × Lg) :=
  (if v5 < 0 then some (sg, lg) else (if (v5 &&& v4) = v5 then LX12_fill_43 r25 (v4, v5, (0 : Int32), sg, lg) else fX12_fill_150 r25 v4 v5 sg lg))
set_option maxHeartbeats 4000000 in
set_option maxRecDepth 100000 in
theorem tX12_fill_25 (C : Cx p s m args meth c cX12_fill 8 RX12 wsX12_fill none D vwCl (tysM T) A false []) {so : Sg} {lo : Lg} {r25 : (Int32 × Int32 × Sg × Lg) → Option (Sg × Lg)} (hr25 : ∀ (v4 : Int32) (v5 : Int32) (sg : Sg) (lg : Lg), r25 (v4, v5, sg, lg) = some (so, lo) → ∀ (H : Heap) (locs : List Loc) (ls : Array Slot), WS ZM D vwCl T ad sg lg A s.heap H locs → lv_has ls 8 [(0, .ref (ad 0)), (4, .int v4), (5, .int v5)] → W p l e rmX12_fill s m args below meth c H locs 0 0 (MQ below (QV ZM D vwCl T (tysM T) A (fun z => ad = z) so lo) args s 0 0 A) (F0 m 25 ls [])) : ∀ (v4 : Int32) (v5 : Int32) (sg : Sg) (lg : Lg), ∀ (H : Heap) (locs : List Loc) (ls : Array Slot), WS ZM D vwCl T ad sg lg A s.heap H locs → lv_has ls 8 [(0, .ref (ad 0)), (4, .int v4), (5, .int v5)] → fX12_fill_25 r25 v4 v5 sg lg = some (so, lo) → W p l e rmX12_fill s m args below meth c H locs 0 0 (MQ below (QV ZM D vwCl T (tysM T) A (fun z => ad = z) so lo) args s 0 0 A) (F0 m 25 ls []) := by
  obtain ⟨⟨hx, hb, hml, hown, hts⟩, hr, hlk, hK, hA, hsp⟩ := id C
  intro v4 v5 sg lg H locs ls hw hl h
  unfold fX12_fill_25 at h
  refine lv_iload hx hb dX12_fill_25 (lv_at hl 2 rfl) ?_
  refine lv_if_lt (tgt := 156) hx hb dX12_fill_27 (by decide) (fun c1 => ?_) (fun c1 => ?_)
  · replace h := ite_t h c1
    cases h
    exact r_vret C hw rfl (by decide) (by decide) dX12_fill_156
  · replace h := ite_f h c1
    refine lv_iload hx hb dX12_fill_30 (lv_at hl 2 rfl) ?_
    refine lv_iload hx hb dX12_fill_32 (lv_at hl 1 rfl) ?_
    refine lv_iand hx hb dX12_fill_34 ?_
    refine lv_iload hx hb dX12_fill_35 (lv_at hl 2 rfl) ?_
    refine lv_icmp_ne (tgt := 150) hx hb dX12_fill_37 (by decide) (fun c2 => ?_) (fun c2 => ?_)
    · replace h := ite_f h c2
      exact tX12_fill_150 C hr25 v4 v5 sg lg _ _ _ hw (lv_sub hl [0, 1, 2] rfl) h
    · replace h := ite_t h c2
      refine lv_iconst (v := (0 : Int32)) hx hb dX12_fill_40 (by decide) ?_
      refine lv_istore (lv' := [(6, .int (0 : Int32)), (0, .ref (ad 0)), (4, .int v4), (5, .int v5)]) hx hb dX12_fill_41 hl (by decide) rfl (fun ls hl => ?_)
      exact TX12_fill_43 C hr25 v4 v5 (0 : Int32) sg lg h _ _ _ hw (lv_sub hl [1, 2, 3, 0] rfl)
def LX12_fill_25  : (Int32 × Int32 × Sg × Lg) → Option (Sg × Lg) := loop (fun rec z => fX12_fill_25 rec z.1 z.2.1 z.2.2.1 z.2.2.2)
theorem TX12_fill_25 (C : Cx p s m args meth c cX12_fill 8 RX12 wsX12_fill none D vwCl (tysM T) A false []) {so : Sg} {lo : Lg}   : ∀ (v4 : Int32) (v5 : Int32) (sg : Sg) (lg : Lg), LX12_fill_25 (v4, v5, sg, lg) = some (so, lo) → ∀ (H : Heap) (locs : List Loc) (ls : Array Slot), WS ZM D vwCl T ad sg lg A s.heap H locs → lv_has ls 8 [(0, .ref (ad 0)), (4, .int v4), (5, .int v5)] → W p l e rmX12_fill s m args below meth c H locs 0 0 (MQ below (QV ZM D vwCl T (tysM T) A (fun z => ad = z) so lo) args s 0 0 A) (F0 m 25 ls []) := by
  have key : ∀ z : (Int32 × Int32 × Sg × Lg), LX12_fill_25  z = some (so, lo) → ∀ (H : Heap) (locs : List Loc) (ls : Array Slot), WS ZM D vwCl T ad z.2.2.1 z.2.2.2 A s.heap H locs → lv_has ls 8 [(0, .ref (ad 0)), (4, .int z.1), (5, .int z.2.1)] → W p l e rmX12_fill s m args below meth c H locs 0 0 (MQ below (QV ZM D vwCl T (tysM T) A (fun z => ad = z) so lo) args s 0 0 A) (F0 m 25 ls []) := by
    intro z h
    unfold LX12_fill_25 at h
    exact loop_ind (fun rec z => fX12_fill_25 rec z.1 z.2.1 z.2.2.1 z.2.2.2) (y := (so, lo)) (P := fun z => ∀ (H : Heap) (locs : List Loc) (ls : Array Slot), WS ZM D vwCl T ad z.2.2.1 z.2.2.2 A s.heap H locs → lv_has ls 8 [(0, .ref (ad 0)), (4, .int z.1), (5, .int z.2.1)] → W p l e rmX12_fill s m args below meth c H locs 0 0 (MQ below (QV ZM D vwCl T (tysM T) A (fun z => ad = z) so lo) args s 0 0 A) (F0 m 25 ls [])) (fun rec hrec z h H locs ls hw hl => tX12_fill_25 C  (fun v4 v5 sg lg => hrec (v4, v5, sg, lg)) z.1 z.2.1 z.2.2.1 z.2.2.2 H locs ls hw hl h) z h
  exact fun v4 v5 sg lg => key (v4, v5, sg, lg)
def fX12_fill  (v1 : Int32) (v2 : Int32) (v3 : Int32) (sg : Sg) (lg : Lg) : Option (Sg × Lg) :=
  gz v1 (lt (up2 sg 0 7 v1) (fun sg2 => lt (up2 sg2 0 8 v2) (fun sg3 => lt (up2 sg3 0 9 v3) (fun sg4 => bnd3 (fX12_counting sg4 lg) (fun y5 sg6 lg7 => LX12_fill_25 (y5, y5, sg6, lg7))))))
set_option maxHeartbeats 4000000 in
set_option maxRecDepth 100000 in
theorem tX12_fill_0 (C : Cx p s m args meth c cX12_fill 8 RX12 wsX12_fill none D vwCl (tysM T) A false []) {so : Sg} {lo : Lg}   : ∀ (v1 : Int32) (v2 : Int32) (v3 : Int32) (sg : Sg) (lg : Lg), ∀ (H : Heap) (locs : List Loc) (ls : Array Slot), WS ZM D vwCl T ad sg lg A s.heap H locs → lv_has ls 8 [(0, .ref (ad 0)), (1, .int v1), (2, .int v2), (3, .int v3)] → fX12_fill v1 v2 v3 sg lg = some (so, lo) → W p l e rmX12_fill s m args below meth c H locs 0 0 (MQ below (QV ZM D vwCl T (tysM T) A (fun z => ad = z) so lo) args s 0 0 A) (F0 m 0 ls []) := by
  obtain ⟨⟨hx, hb, hml, hown, hts⟩, hr, hlk, hK, hA, hsp⟩ := id C
  intro v1 v2 v3 sg lg H locs ls hw hl h
  unfold fX12_fill at h
  refine lv_aload_n hx hb dX12_fill_0 rfl (lv_at hl 0 rfl) ?_
  refine lv_iload_n hx hb dX12_fill_1 rfl (lv_at hl 1 rfl) ?_
  have hz1 := (gz_some h).1
  replace h := (gz_some h).2
  refine r_putI ZM_ok (ci := 12) (C := RX12) (U := TX12) (N := 18) (ty := .boolean) hx hb hts kX12_fill_iX12 tyX12 tyX12_ok nmX12 hown hK hw 0 (by decide) rfl rfl 7 (by decide) rfl (hts _ kX12_fill_f123) (fun _ h9 => h9) rfl (by decide +kernel) (congrArg Value.int hz1) (gz_fits hz1) dX12_fill_2 (fun H locs sg2 esg2 hw => ?_)
  replace h := lt_get h sg2 esg2
  refine lv_aload_n hx hb dX12_fill_5 rfl (lv_at hl 0 rfl) ?_
  refine lv_iload_n hx hb dX12_fill_6 rfl (lv_at hl 2 rfl) ?_
  refine r_putI ZM_ok (ci := 12) (C := RX12) (U := TX12) (N := 18) (ty := .int) hx hb hts kX12_fill_iX12 tyX12 tyX12_ok nmX12 hown hK hw 0 (by decide) rfl rfl 8 (by decide) rfl (hts _ kX12_fill_f120) (fun _ h9 => h9) rfl (by decide +kernel) rfl rfl dX12_fill_7 (fun H locs sg3 esg3 hw => ?_)
  replace h := lt_get h sg3 esg3
  refine lv_aload_n hx hb dX12_fill_10 rfl (lv_at hl 0 rfl) ?_
  refine lv_iload_n hx hb dX12_fill_11 rfl (lv_at hl 3 rfl) ?_
  refine r_putI ZM_ok (ci := 12) (C := RX12) (U := TX12) (N := 18) (ty := .int) hx hb hts kX12_fill_iX12 tyX12 tyX12_ok nmX12 hown hK hw 0 (by decide) rfl rfl 9 (by decide) rfl (hts _ kX12_fill_f117) (fun _ h9 => h9) rfl (by decide +kernel) rfl rfl dX12_fill_12 (fun H locs sg4 esg4 hw => ?_)
  replace h := lt_get h sg4 esg4
  refine lv_aload_n hx hb dX12_fill_15 rfl (lv_at hl 0 rfl) ?_
  obtain ⟨y5, sg6, lg7, hq8, h2⟩ := bnd3_some h
  replace h := h2
  clear h2
  refine r_cVi (As := []) (rest := []) C hw 0 (by decide) (ci := 12) rfl rfl (mX12_counting l D T ad  H.size sg4 lg hq8) (cwV 0 hts gX12_fill_X12_counting rfl rfl rfl (by decide +kernel) ⟨Nat.le_of_ble_eq_true rfl, Nat.le_of_ble_eq_true rfl⟩) rfl hl.1 rfl (Nat.le_of_ble_eq_true rfl) dX12_fill_16 ⟨Nat.le_of_ble_eq_true rfl, Nat.le_of_ble_eq_true rfl⟩ (fun ad' H locs hp hw => ?_)
  subst hp
  refine W.widen (k := 0) (n := 0) (by decide) (by decide) ?_
  refine lv_istore (lv' := [(4, .int y5), (0, .ref (ad 0)), (1, .int v1), (2, .int v2), (3, .int v3)]) hx hb dX12_fill_19 hl (by decide) rfl (fun ls hl => ?_)
  refine lv_iload hx hb dX12_fill_21 (lv_at hl 0 rfl) ?_
  refine lv_istore (lv' := [(5, .int y5), (4, .int y5), (0, .ref (ad 0)), (1, .int v1), (2, .int v2), (3, .int v3)]) hx hb dX12_fill_23 hl (by decide) rfl (fun ls hl => ?_)
  exact TX12_fill_25 C y5 y5 sg6 lg7 h _ _ _ hw (lv_sub hl [2, 1, 0] rfl)
theorem mX12_fill (l : Launch) (D : va_G) (T : Nat → ClassId) (ad : Nat → Nat)  (sz : Nat)   (v1 : Int32) (v2 : Int32) (v3 : Int32) (sg : Sg) (lg : Lg) {so : Sg} {lo : Lg} (h : fX12_fill v1 v2 v3 sg lg = some (so, lo)) : Met l yX12_fill wsX12_fill rmX12_fill (PreZ ZM D vwCl T (tysM T) ad sg lg false [] [.ref (ad 0), .int v1, .int v2, .int v3] sz) (QV ZM D vwCl T (tysM T) (va_A (zwd ZM T ad sg lg) sz) (fun z => ad = z) so lo) 0 0 (va_A (zwd ZM T ad sg lg) sz) :=
  metZ [.ref (ad 0), .int v1, .int v2, .int v3] sz (by decide) rfl (Nat.le_of_ble_eq_true rfl) (fun p e s m below meth c ls C hw hl => tX12_fill_0 C v1 v2 v3 sg lg _ _ _ hw hl h)
-- PeckYardModel.begun()I
def rmX12_begun : Room := { frames := 0, cells := 0, slots := 0, locals := 0 }
def fX12_begun  (sg : Sg) (lg : Lg) : Option (Int32 × Sg × Lg) :=
  some ((12 : Int32), sg, lg)
set_option maxHeartbeats 4000000 in
set_option maxRecDepth 100000 in
theorem tX12_begun_0 (C : Cx p s m args meth c cX12_begun 0 RX12 wsX12_begun (some .int) D vwCl (tysM T) A false []) {ro : Int32} {so : Sg} {lo : Lg}   : ∀ (sg : Sg) (lg : Lg), ∀ (H : Heap) (locs : List Loc) (ls : Array Slot), WS ZM D vwCl T ad sg lg A s.heap H locs → lv_has ls 0 [] → fX12_begun sg lg = some (ro, so, lo) → W p l e rmX12_begun s m args below meth c H locs 0 0 (MQ below (QI ZM D vwCl T (tysM T) A (fun z => ad = z) ro so lo) args s 0 0 A) (F0 m 0 ls []) := by
  obtain ⟨⟨hx, hb, hml, hown, hts⟩, hr, hlk, hK, hA, hsp⟩ := id C
  intro sg lg H locs ls hw hl h
  unfold fX12_begun at h
  refine lv_bipush (v := (12 : Int32)) hx hb dX12_begun_0 (by decide) ?_
  cases h
  exact r_iret C hw rfl (by decide) (by decide) dX12_begun_2
theorem mX12_begun (l : Launch) (D : va_G) (T : Nat → ClassId) (ad : Nat → Nat)  (sz : Nat)   (sg : Sg) (lg : Lg) {ro : Int32} {so : Sg} {lo : Lg} (h : fX12_begun sg lg = some (ro, so, lo)) : Met l yX12_begun wsX12_begun rmX12_begun (PreZ ZM D vwCl T (tysM T) ad sg lg false [] [] sz) (QI ZM D vwCl T (tysM T) (va_A (zwd ZM T ad sg lg) sz) (fun z => ad = z) ro so lo) 0 0 (va_A (zwd ZM T ad sg lg) sz) :=
  metZ [] sz (by decide) rfl (Nat.le_of_ble_eq_true rfl) (fun p e s m below meth c ls C hw hl => tX12_begun_0 C sg lg _ _ _ hw hl h)
-- PeckYardModel.least()J
def rmX12_least : Room := { frames := 8, cells := 0, slots := 0, locals := 190 }
theorem kX12_least_f20 : Cond.fieldLink RX12 20 "PeckYardModel" "leastOf" "[J" ∈ wsX12_least := by decide +kernel
theorem kX12_least_iX12 : ∀ w ∈ u_ws RX12 TX12 18, w ∈ wsX12_least := by decide +kernel
theorem kX12_least_c131 : Cond.constantLong RX12 131 (1000000000000000) ∈ wsX12_least := by decide +kernel
theorem kX12_least_c112 : Cond.constantLong RX12 112 (-2000000005) ∈ wsX12_least := by decide +kernel
def fX12_least  (sg : Sg) (lg : Lg) : Option (Int64 × Sg × Lg) :=
  bnd2 (fX12_fill (1 : Int32) (-1 : Int32) (-1 : Int32) sg lg) (fun sg1 lg2 => bnd3 (fX12_begun sg1 lg2) (fun y4 sg5 lg6 => gin y4 53248 ((if (lg6 4 y4.toNatClampNeg) < (1000000000000000 : Int64) then bnd3 (fX12_begun sg5 lg6) (fun y10 sg11 lg12 => gin y10 53248 (some ((lg12 4 y10.toNatClampNeg), sg11, lg12))) else some ((-2000000005 : Int64), sg5, lg6)))))
set_option maxHeartbeats 4000000 in
set_option maxRecDepth 100000 in
theorem tX12_least_0 (C : Cx p s m args meth c cX12_least 1 RX12 wsX12_least (some .long) D vwCl (tysM T) A false []) {ro : Int64} {so : Sg} {lo : Lg}   : ∀ (sg : Sg) (lg : Lg), ∀ (H : Heap) (locs : List Loc) (ls : Array Slot), WS ZM D vwCl T ad sg lg A s.heap H locs → lv_has ls 1 [(0, .ref (ad 0))] → fX12_least sg lg = some (ro, so, lo) → W p l e rmX12_least s m args below meth c H locs 0 0 (MQ below (QL ZM D vwCl T (tysM T) A (fun z => ad = z) ro so lo) args s 0 0 A) (F0 m 0 ls []) := by
  obtain ⟨⟨hx, hb, hml, hown, hts⟩, hr, hlk, hK, hA, hsp⟩ := id C
  intro sg lg H locs ls hw hl h
  unfold fX12_least at h
  refine lv_aload_n hx hb dX12_least_0 rfl (lv_at hl 0 rfl) ?_
  refine lv_iconst (v := (1 : Int32)) hx hb dX12_least_1 (by decide) ?_
  refine lv_iconst (v := (-1 : Int32)) hx hb dX12_least_2 (by decide) ?_
  refine lv_iconst (v := (-1 : Int32)) hx hb dX12_least_3 (by decide) ?_
  obtain ⟨sg1, lg2, hq3, h2⟩ := bnd2_some h
  replace h := h2
  clear h2
  refine r_cVv (As := [.int (1 : Int32), .int (-1 : Int32), .int (-1 : Int32)]) (rest := []) C hw 0 (by decide) (ci := 12) rfl rfl (mX12_fill l D T ad  H.size (1 : Int32) (-1 : Int32) (-1 : Int32) sg lg hq3) (cwV 3 hts gX12_least_X12_fill rfl rfl rfl (by decide +kernel) ⟨Nat.le_of_ble_eq_true rfl, Nat.le_of_ble_eq_true rfl⟩) rfl hl.1 rfl (Nat.le_of_ble_eq_true rfl) dX12_least_4 ⟨Nat.le_of_ble_eq_true rfl, Nat.le_of_ble_eq_true rfl⟩ (fun ad' H locs hp hw => ?_)
  subst hp
  refine W.widen (k := 0) (n := 0) (by decide) (by decide) ?_
  refine lv_aload_n hx hb dX12_least_7 rfl (lv_at hl 0 rfl) ?_
  refine r_getR (ci := 12) (C := RX12) (U := TX12) (N := 18) hx hb hts kX12_least_iX12 hown hK hw 0 (by decide) rfl rfl 5 (by decide) 4 rfl (hts _ kX12_least_f20) (fun _ h9 => h9) dX12_least_8 ?_
  obtain ⟨y4, sg5, lg6, hq7, h2⟩ := bnd3_some h
  replace h := h2
  clear h2
  refine r_cSi (As := []) (rest := [.ref (ad 4)]) C hw (mX12_begun l D T ad  H.size sg1 lg2 hq7) (va_cwS 0 hts gX12_least_X12_begun rfl rfl rfl (by decide +kernel) ⟨Nat.le_of_ble_eq_true rfl, Nat.le_of_ble_eq_true rfl⟩) rfl hl.1 rfl (Nat.le_of_ble_eq_true rfl) dX12_least_11 ⟨Nat.le_of_ble_eq_true rfl, Nat.le_of_ble_eq_true rfl⟩ (fun ad' H locs hp hw => ?_)
  subst hp
  refine W.widen (k := 0) (n := 0) (by decide) (by decide) ?_
  have hi8 := (gin_some h).1
  replace h := (gin_some h).2
  refine r_lald hx hb hK hw 4 2 53248 (by decide) rfl rfl rfl hi8 dX12_least_14 ?_
  refine lv_ldc2 hx hb hown (hts _ kX12_least_c131) dX12_least_15 ?_
  refine W.lcmp hx hb dX12_least_18 ?_
  refine lv_if_lt (tgt := 28) hx hb dX12_least_19 (by decide) (fun c9 => ?_) (fun c9 => ?_)
  · replace h := ite_t h ((lg_cmp_lt _ _).mp c9)
    refine lv_aload_n hx hb dX12_least_28 rfl (lv_at hl 0 rfl) ?_
    refine r_getR (ci := 12) (C := RX12) (U := TX12) (N := 18) hx hb hts kX12_least_iX12 hown hK hw 0 (by decide) rfl rfl 5 (by decide) 4 rfl (hts _ kX12_least_f20) (fun _ h9 => h9) dX12_least_29 ?_
    obtain ⟨y10, sg11, lg12, hq13, h2⟩ := bnd3_some h
    replace h := h2
    clear h2
    refine r_cSi (As := []) (rest := [.ref (ad 4)]) C hw (mX12_begun l D T ad  H.size sg5 lg6 hq13) (va_cwS 0 hts gX12_least_X12_begun rfl rfl rfl (by decide +kernel) ⟨Nat.le_of_ble_eq_true rfl, Nat.le_of_ble_eq_true rfl⟩) rfl hl.1 rfl (Nat.le_of_ble_eq_true rfl) dX12_least_32 ⟨Nat.le_of_ble_eq_true rfl, Nat.le_of_ble_eq_true rfl⟩ (fun ad' H locs hp hw => ?_)
    subst hp
    refine W.widen (k := 0) (n := 0) (by decide) (by decide) ?_
    have hi14 := (gin_some h).1
    replace h := (gin_some h).2
    refine r_lald hx hb hK hw 4 2 53248 (by decide) rfl rfl rfl hi14 dX12_least_35 ?_
    cases h
    exact r_lret C hw rfl (by decide) (by decide) dX12_least_36
  · replace h := ite_f h (fun z => c9 ((lg_cmp_lt _ _).mpr z))
    refine lv_ldc2 hx hb hown (hts _ kX12_least_c112) dX12_least_22 ?_
    refine lv_goto (tgt := 36) hx hb dX12_least_25 (by decide) ?_
    cases h
    exact r_lret C hw rfl (by decide) (by decide) dX12_least_36
theorem mX12_least (l : Launch) (D : va_G) (T : Nat → ClassId) (ad : Nat → Nat)  (sz : Nat)   (sg : Sg) (lg : Lg) {ro : Int64} {so : Sg} {lo : Lg} (h : fX12_least sg lg = some (ro, so, lo)) : Met l yX12_least wsX12_least rmX12_least (PreZ ZM D vwCl T (tysM T) ad sg lg false [] [.ref (ad 0)] sz) (QL ZM D vwCl T (tysM T) (va_A (zwd ZM T ad sg lg) sz) (fun z => ad = z) ro so lo) 0 0 (va_A (zwd ZM T ad sg lg) sz) :=
  metZ [.ref (ad 0)] sz (by decide) rfl (Nat.le_of_ble_eq_true rfl) (fun p e s m below meth c ls C hw hl => tX12_least_0 C sg lg _ _ _ hw hl h)
-- PeckYardModel.many()J
def rmX12_many : Room := { frames := 8, cells := 0, slots := 0, locals := 190 }
theorem kX12_many_f24 : Cond.fieldLink RX12 24 "PeckYardModel" "waysOf" "[J" ∈ wsX12_many := by decide +kernel
theorem kX12_many_iX12 : ∀ w ∈ u_ws RX12 TX12 18, w ∈ wsX12_many := by decide +kernel
def fX12_many  (sg : Sg) (lg : Lg) : Option (Int64 × Sg × Lg) :=
  bnd2 (fX12_fill (1 : Int32) (-1 : Int32) (-1 : Int32) sg lg) (fun sg1 lg2 => bnd3 (fX12_begun sg1 lg2) (fun y4 sg5 lg6 => gin y4 53248 (some ((lg6 5 y4.toNatClampNeg), sg5, lg6))))
set_option maxHeartbeats 4000000 in
set_option maxRecDepth 100000 in
theorem tX12_many_0 (C : Cx p s m args meth c cX12_many 1 RX12 wsX12_many (some .long) D vwCl (tysM T) A false []) {ro : Int64} {so : Sg} {lo : Lg}   : ∀ (sg : Sg) (lg : Lg), ∀ (H : Heap) (locs : List Loc) (ls : Array Slot), WS ZM D vwCl T ad sg lg A s.heap H locs → lv_has ls 1 [(0, .ref (ad 0))] → fX12_many sg lg = some (ro, so, lo) → W p l e rmX12_many s m args below meth c H locs 0 0 (MQ below (QL ZM D vwCl T (tysM T) A (fun z => ad = z) ro so lo) args s 0 0 A) (F0 m 0 ls []) := by
  obtain ⟨⟨hx, hb, hml, hown, hts⟩, hr, hlk, hK, hA, hsp⟩ := id C
  intro sg lg H locs ls hw hl h
  unfold fX12_many at h
  refine lv_aload_n hx hb dX12_many_0 rfl (lv_at hl 0 rfl) ?_
  refine lv_iconst (v := (1 : Int32)) hx hb dX12_many_1 (by decide) ?_
  refine lv_iconst (v := (-1 : Int32)) hx hb dX12_many_2 (by decide) ?_
  refine lv_iconst (v := (-1 : Int32)) hx hb dX12_many_3 (by decide) ?_
  obtain ⟨sg1, lg2, hq3, h2⟩ := bnd2_some h
  replace h := h2
  clear h2
  refine r_cVv (As := [.int (1 : Int32), .int (-1 : Int32), .int (-1 : Int32)]) (rest := []) C hw 0 (by decide) (ci := 12) rfl rfl (mX12_fill l D T ad  H.size (1 : Int32) (-1 : Int32) (-1 : Int32) sg lg hq3) (cwV 3 hts gX12_many_X12_fill rfl rfl rfl (by decide +kernel) ⟨Nat.le_of_ble_eq_true rfl, Nat.le_of_ble_eq_true rfl⟩) rfl hl.1 rfl (Nat.le_of_ble_eq_true rfl) dX12_many_4 ⟨Nat.le_of_ble_eq_true rfl, Nat.le_of_ble_eq_true rfl⟩ (fun ad' H locs hp hw => ?_)
  subst hp
  refine W.widen (k := 0) (n := 0) (by decide) (by decide) ?_
  refine lv_aload_n hx hb dX12_many_7 rfl (lv_at hl 0 rfl) ?_
  refine r_getR (ci := 12) (C := RX12) (U := TX12) (N := 18) hx hb hts kX12_many_iX12 hown hK hw 0 (by decide) rfl rfl 6 (by decide) 5 rfl (hts _ kX12_many_f24) (fun _ h9 => h9) dX12_many_8 ?_
  obtain ⟨y4, sg5, lg6, hq7, h2⟩ := bnd3_some h
  replace h := h2
  clear h2
  refine r_cSi (As := []) (rest := [.ref (ad 5)]) C hw (mX12_begun l D T ad  H.size sg1 lg2 hq7) (va_cwS 0 hts gX12_many_X12_begun rfl rfl rfl (by decide +kernel) ⟨Nat.le_of_ble_eq_true rfl, Nat.le_of_ble_eq_true rfl⟩) rfl hl.1 rfl (Nat.le_of_ble_eq_true rfl) dX12_many_11 ⟨Nat.le_of_ble_eq_true rfl, Nat.le_of_ble_eq_true rfl⟩ (fun ad' H locs hp hw => ?_)
  subst hp
  refine W.widen (k := 0) (n := 0) (by decide) (by decide) ?_
  have hi8 := (gin_some h).1
  replace h := (gin_some h).2
  refine r_lald hx hb hK hw 5 2 53248 (by decide) rfl rfl rfl hi8 dX12_many_14 ?_
  cases h
  exact r_lret C hw rfl (by decide) (by decide) dX12_many_15
theorem mX12_many (l : Launch) (D : va_G) (T : Nat → ClassId) (ad : Nat → Nat)  (sz : Nat)   (sg : Sg) (lg : Lg) {ro : Int64} {so : Sg} {lo : Lg} (h : fX12_many sg lg = some (ro, so, lo)) : Met l yX12_many wsX12_many rmX12_many (PreZ ZM D vwCl T (tysM T) ad sg lg false [] [.ref (ad 0)] sz) (QL ZM D vwCl T (tysM T) (va_A (zwd ZM T ad sg lg) sz) (fun z => ad = z) ro so lo) 0 0 (va_A (zwd ZM T ad sg lg) sz) :=
  metZ [.ref (ad 0)] sz (by decide) rfl (Nat.le_of_ble_eq_true rfl) (fun p e s m below meth c ls C hw hl => tX12_many_0 C sg lg _ _ _ hw hl h)
-- PeckYardModel.loose()J
def rmX12_loose : Room := { frames := 8, cells := 0, slots := 0, locals := 190 }
theorem kX12_loose_f20 : Cond.fieldLink RX12 20 "PeckYardModel" "leastOf" "[J" ∈ wsX12_loose := by decide +kernel
theorem kX12_loose_iX12 : ∀ w ∈ u_ws RX12 TX12 18, w ∈ wsX12_loose := by decide +kernel
def fX12_loose  (sg : Sg) (lg : Lg) : Option (Int64 × Sg × Lg) :=
  bnd2 (fX12_fill (0 : Int32) (-1 : Int32) (-1 : Int32) sg lg) (fun sg1 lg2 => bnd3 (fX12_begun sg1 lg2) (fun y4 sg5 lg6 => gin y4 53248 (some ((lg6 4 y4.toNatClampNeg), sg5, lg6))))
set_option maxHeartbeats 4000000 in
set_option maxRecDepth 100000 in
theorem tX12_loose_0 (C : Cx p s m args meth c cX12_loose 1 RX12 wsX12_loose (some .long) D vwCl (tysM T) A false []) {ro : Int64} {so : Sg} {lo : Lg}   : ∀ (sg : Sg) (lg : Lg), ∀ (H : Heap) (locs : List Loc) (ls : Array Slot), WS ZM D vwCl T ad sg lg A s.heap H locs → lv_has ls 1 [(0, .ref (ad 0))] → fX12_loose sg lg = some (ro, so, lo) → W p l e rmX12_loose s m args below meth c H locs 0 0 (MQ below (QL ZM D vwCl T (tysM T) A (fun z => ad = z) ro so lo) args s 0 0 A) (F0 m 0 ls []) := by
  obtain ⟨⟨hx, hb, hml, hown, hts⟩, hr, hlk, hK, hA, hsp⟩ := id C
  intro sg lg H locs ls hw hl h
  unfold fX12_loose at h
  refine lv_aload_n hx hb dX12_loose_0 rfl (lv_at hl 0 rfl) ?_
  refine lv_iconst (v := (0 : Int32)) hx hb dX12_loose_1 (by decide) ?_
  refine lv_iconst (v := (-1 : Int32)) hx hb dX12_loose_2 (by decide) ?_
  refine lv_iconst (v := (-1 : Int32)) hx hb dX12_loose_3 (by decide) ?_
  obtain ⟨sg1, lg2, hq3, h2⟩ := bnd2_some h
  replace h := h2
  clear h2
  refine r_cVv (As := [.int (0 : Int32), .int (-1 : Int32), .int (-1 : Int32)]) (rest := []) C hw 0 (by decide) (ci := 12) rfl rfl (mX12_fill l D T ad  H.size (0 : Int32) (-1 : Int32) (-1 : Int32) sg lg hq3) (cwV 3 hts gX12_loose_X12_fill rfl rfl rfl (by decide +kernel) ⟨Nat.le_of_ble_eq_true rfl, Nat.le_of_ble_eq_true rfl⟩) rfl hl.1 rfl (Nat.le_of_ble_eq_true rfl) dX12_loose_4 ⟨Nat.le_of_ble_eq_true rfl, Nat.le_of_ble_eq_true rfl⟩ (fun ad' H locs hp hw => ?_)
  subst hp
  refine W.widen (k := 0) (n := 0) (by decide) (by decide) ?_
  refine lv_aload_n hx hb dX12_loose_7 rfl (lv_at hl 0 rfl) ?_
  refine r_getR (ci := 12) (C := RX12) (U := TX12) (N := 18) hx hb hts kX12_loose_iX12 hown hK hw 0 (by decide) rfl rfl 5 (by decide) 4 rfl (hts _ kX12_loose_f20) (fun _ h9 => h9) dX12_loose_8 ?_
  obtain ⟨y4, sg5, lg6, hq7, h2⟩ := bnd3_some h
  replace h := h2
  clear h2
  refine r_cSi (As := []) (rest := [.ref (ad 4)]) C hw (mX12_begun l D T ad  H.size sg1 lg2 hq7) (va_cwS 0 hts gX12_loose_X12_begun rfl rfl rfl (by decide +kernel) ⟨Nat.le_of_ble_eq_true rfl, Nat.le_of_ble_eq_true rfl⟩) rfl hl.1 rfl (Nat.le_of_ble_eq_true rfl) dX12_loose_11 ⟨Nat.le_of_ble_eq_true rfl, Nat.le_of_ble_eq_true rfl⟩ (fun ad' H locs hp hw => ?_)
  subst hp
  refine W.widen (k := 0) (n := 0) (by decide) (by decide) ?_
  have hi8 := (gin_some h).1
  replace h := (gin_some h).2
  refine r_lald hx hb hK hw 4 2 53248 (by decide) rfl rfl rfl hi8 dX12_loose_14 ?_
  cases h
  exact r_lret C hw rfl (by decide) (by decide) dX12_loose_15
theorem mX12_loose (l : Launch) (D : va_G) (T : Nat → ClassId) (ad : Nat → Nat)  (sz : Nat)   (sg : Sg) (lg : Lg) {ro : Int64} {so : Sg} {lo : Lg} (h : fX12_loose sg lg = some (ro, so, lo)) : Met l yX12_loose wsX12_loose rmX12_loose (PreZ ZM D vwCl T (tysM T) ad sg lg false [] [.ref (ad 0)] sz) (QL ZM D vwCl T (tysM T) (va_A (zwd ZM T ad sg lg) sz) (fun z => ad = z) ro so lo) 0 0 (va_A (zwd ZM T ad sg lg) sz) :=
  metZ [.ref (ad 0)] sz (by decide) rfl (Nat.le_of_ble_eq_true rfl) (fun p e s m below meth c ls C hw hl => tX12_loose_0 C sg lg _ _ _ hw hl h)
-- PeckYardModel.isBest(III)Z
def rmX12_isBest : Room := { frames := 6, cells := 0, slots := 0, locals := 136 }
theorem kX12_isBest_f20 : Cond.fieldLink RX12 20 "PeckYardModel" "leastOf" "[J" ∈ wsX12_isBest := by decide +kernel
theorem kX12_isBest_iX12 : ∀ w ∈ u_ws RX12 TX12 18, w ∈ wsX12_isBest := by decide +kernel
theorem kX12_isBest_c131 : Cond.constantLong RX12 131 (1000000000000000) ∈ wsX12_isBest := by decide +kernel
def fX12_isBest  (v1 : Int32) (v2 : Int32) (v3 : Int32) (sg : Sg) (lg : Lg) : Option (Int32 × Sg × Lg) :=
  lt (((13 : Int32) * (v2 ||| ((1 : Int32) <<< (v1 &&& 31)))) + v1) (fun x1 => bnd3 (fX12_mayCome v1 v2 v3 sg lg) (fun y2 sg3 lg4 => (if y2 = 0 then some ((0 : Int32), sg3, lg4) else gin x1 53248 ((if (1000000000000000 : Int64) ≤ (lg4 4 x1.toNatClampNeg) then some ((0 : Int32), sg3, lg4) else bnd3 (fX12_cost v1 v2 sg3 lg4) (fun y9 sg10 lg11 => gin x1 53248 (lt (((13 : Int32) * v2) + v3) (fun x14 => gin x14 53248 ((if (y9 + (lg11 4 x1.toNatClampNeg)) = (lg11 4 x14.toNatClampNeg) then some ((1 : Int32), sg10, lg11) else some ((0 : Int32), sg10, lg11)))))))))))
set_option maxHeartbeats 4000000 in
set_option maxRecDepth 100000 in
theorem tX12_isBest_0 (C : Cx p s m args meth c cX12_isBest 5 RX12 wsX12_isBest (some .boolean) D vwCl (tysM T) A false []) {ro : Int32} {so : Sg} {lo : Lg}   : ∀ (v1 : Int32) (v2 : Int32) (v3 : Int32) (sg : Sg) (lg : Lg), ∀ (H : Heap) (locs : List Loc) (ls : Array Slot), WS ZM D vwCl T ad sg lg A s.heap H locs → lv_has ls 5 [(0, .ref (ad 0)), (1, .int v1), (2, .int v2), (3, .int v3)] → fX12_isBest v1 v2 v3 sg lg = some (ro, so, lo) → W p l e rmX12_isBest s m args below meth c H locs 0 0 (MQ below (QI ZM D vwCl T (tysM T) A (fun z => ad = z) ro so lo) args s 0 0 A) (F0 m 0 ls []) := by
  obtain ⟨⟨hx, hb, hml, hown, hts⟩, hr, hlk, hK, hA, hsp⟩ := id C
  intro v1 v2 v3 sg lg H locs ls hw hl h
  unfold fX12_isBest at h
  refine lv_bipush (v := (13 : Int32)) hx hb dX12_isBest_0 (by decide) ?_
  refine lv_iload_n hx hb dX12_isBest_2 rfl (lv_at hl 2 rfl) ?_
  refine lv_iconst (v := (1 : Int32)) hx hb dX12_isBest_3 (by decide) ?_
  refine lv_iload_n hx hb dX12_isBest_4 rfl (lv_at hl 1 rfl) ?_
  refine lv_ishl hx hb dX12_isBest_5 ?_
  refine lv_ior hx hb dX12_isBest_6 ?_
  refine lv_imul hx hb dX12_isBest_7 ?_
  refine lv_iload_n hx hb dX12_isBest_8 rfl (lv_at hl 1 rfl) ?_
  refine lv_iadd hx hb dX12_isBest_9 ?_
  refine lv_topi (fun x1 ex1 => ?_)
  replace h := lt_get h x1 ex1
  refine lv_istore (lv' := [(4, .int x1), (0, .ref (ad 0)), (1, .int v1), (2, .int v2), (3, .int v3)]) hx hb dX12_isBest_10 hl (by decide) rfl (fun ls hl => ?_)
  refine lv_aload_n hx hb dX12_isBest_12 rfl (lv_at hl 1 rfl) ?_
  refine lv_iload_n hx hb dX12_isBest_13 rfl (lv_at hl 2 rfl) ?_
  refine lv_iload_n hx hb dX12_isBest_14 rfl (lv_at hl 3 rfl) ?_
  refine lv_iload_n hx hb dX12_isBest_15 rfl (lv_at hl 4 rfl) ?_
  obtain ⟨y2, sg3, lg4, hq5, h2⟩ := bnd3_some h
  replace h := h2
  clear h2
  refine r_cVi (As := [.int v1, .int v2, .int v3]) (rest := []) C hw 0 (by decide) (ci := 12) rfl rfl (mX12_mayCome l D T ad  H.size v1 v2 v3 sg lg hq5) (cwV 3 hts gX12_isBest_X12_mayCome rfl rfl rfl (by decide +kernel) ⟨Nat.le_of_ble_eq_true rfl, Nat.le_of_ble_eq_true rfl⟩) rfl hl.1 rfl (Nat.le_of_ble_eq_true rfl) dX12_isBest_16 ⟨Nat.le_of_ble_eq_true rfl, Nat.le_of_ble_eq_true rfl⟩ (fun ad' H locs hp hw => ?_)
  subst hp
  refine W.widen (k := 0) (n := 0) (by decide) (by decide) ?_
  refine lv_if_eq (tgt := 69) hx hb dX12_isBest_19 (by decide) (fun c6 => ?_) (fun c6 => ?_)
  · replace h := ite_t h c6
    refine lv_iconst (v := (0 : Int32)) hx hb dX12_isBest_69 (by decide) ?_
    cases h
    exact r_zret C hw rfl (by decide) (by decide) (by decide) dX12_isBest_70
  · replace h := ite_f h c6
    refine lv_aload_n hx hb dX12_isBest_22 rfl (lv_at hl 1 rfl) ?_
    refine r_getR (ci := 12) (C := RX12) (U := TX12) (N := 18) hx hb hts kX12_isBest_iX12 hown hK hw 0 (by decide) rfl rfl 5 (by decide) 4 rfl (hts _ kX12_isBest_f20) (fun _ h9 => h9) dX12_isBest_23 ?_
    refine lv_iload hx hb dX12_isBest_26 (lv_at hl 0 rfl) ?_
    have hi7 := (gin_some h).1
    replace h := (gin_some h).2
    refine r_lald hx hb hK hw 4 2 53248 (by decide) rfl rfl rfl hi7 dX12_isBest_28 ?_
    refine lv_ldc2 hx hb hown (hts _ kX12_isBest_c131) dX12_isBest_29 ?_
    refine W.lcmp hx hb dX12_isBest_32 ?_
    refine lv_if_ge (tgt := 69) hx hb dX12_isBest_33 (by decide) (fun c8 => ?_) (fun c8 => ?_)
    · replace h := ite_t h ((lg_cmp_ge _ _).mp c8)
      refine lv_iconst (v := (0 : Int32)) hx hb dX12_isBest_69 (by decide) ?_
      cases h
      exact r_zret C hw rfl (by decide) (by decide) (by decide) dX12_isBest_70
    · replace h := ite_f h (fun z => c8 ((lg_cmp_ge _ _).mpr z))
      refine lv_aload_n hx hb dX12_isBest_36 rfl (lv_at hl 1 rfl) ?_
      refine lv_iload_n hx hb dX12_isBest_37 rfl (lv_at hl 2 rfl) ?_
      refine lv_iload_n hx hb dX12_isBest_38 rfl (lv_at hl 3 rfl) ?_
      obtain ⟨y9, sg10, lg11, hq12, h2⟩ := bnd3_some h
      replace h := h2
      clear h2
      refine r_cVl (As := [.int v1, .int v2]) (rest := []) C hw 0 (by decide) (ci := 12) rfl rfl (mX12_cost l D T ad  H.size v1 v2 sg3 lg4 hq12) (cwV 2 hts gX12_isBest_X12_cost rfl rfl rfl (by decide +kernel) ⟨Nat.le_of_ble_eq_true rfl, Nat.le_of_ble_eq_true rfl⟩) rfl hl.1 rfl (Nat.le_of_ble_eq_true rfl) dX12_isBest_39 ⟨Nat.le_of_ble_eq_true rfl, Nat.le_of_ble_eq_true rfl⟩ (fun ad' H locs hp hw => ?_)
      subst hp
      refine W.widen (k := 0) (n := 0) (by decide) (by decide) ?_
      refine lv_aload_n hx hb dX12_isBest_42 rfl (lv_at hl 1 rfl) ?_
      refine r_getR (ci := 12) (C := RX12) (U := TX12) (N := 18) hx hb hts kX12_isBest_iX12 hown hK hw 0 (by decide) rfl rfl 5 (by decide) 4 rfl (hts _ kX12_isBest_f20) (fun _ h9 => h9) dX12_isBest_43 ?_
      refine lv_iload hx hb dX12_isBest_46 (lv_at hl 0 rfl) ?_
      have hi13 := (gin_some h).1
      replace h := (gin_some h).2
      refine r_lald hx hb hK hw 4 2 53248 (by decide) rfl rfl rfl hi13 dX12_isBest_48 ?_
      refine lv_ladd hx hb dX12_isBest_49 ?_
      refine lv_aload_n hx hb dX12_isBest_50 rfl (lv_at hl 1 rfl) ?_
      refine r_getR (ci := 12) (C := RX12) (U := TX12) (N := 18) hx hb hts kX12_isBest_iX12 hown hK hw 0 (by decide) rfl rfl 5 (by decide) 4 rfl (hts _ kX12_isBest_f20) (fun _ h9 => h9) dX12_isBest_51 ?_
      refine lv_bipush (v := (13 : Int32)) hx hb dX12_isBest_54 (by decide) ?_
      refine lv_iload_n hx hb dX12_isBest_56 rfl (lv_at hl 3 rfl) ?_
      refine lv_imul hx hb dX12_isBest_57 ?_
      refine lv_iload_n hx hb dX12_isBest_58 rfl (lv_at hl 4 rfl) ?_
      refine lv_iadd hx hb dX12_isBest_59 ?_
      refine lv_topi (fun x14 ex14 => ?_)
      replace h := lt_get h x14 ex14
      have hi15 := (gin_some h).1
      replace h := (gin_some h).2
      refine r_lald hx hb hK hw 4 2 53248 (by decide) rfl rfl rfl hi15 dX12_isBest_60 ?_
      refine W.lcmp hx hb dX12_isBest_61 ?_
      refine lv_if_ne (tgt := 69) hx hb dX12_isBest_62 (by decide) (fun c16 => ?_) (fun c16 => ?_)
      · replace h := ite_f h (fun z => c16 ((lg_cmp_eq _ _).mpr z))
        refine lv_iconst (v := (0 : Int32)) hx hb dX12_isBest_69 (by decide) ?_
        cases h
        exact r_zret C hw rfl (by decide) (by decide) (by decide) dX12_isBest_70
      · replace h := ite_t h ((lg_cmp_eq _ _).mp c16)
        refine lv_iconst (v := (1 : Int32)) hx hb dX12_isBest_65 (by decide) ?_
        refine lv_goto (tgt := 70) hx hb dX12_isBest_66 (by decide) ?_
        cases h
        exact r_zret C hw rfl (by decide) (by decide) (by decide) dX12_isBest_70
theorem mX12_isBest (l : Launch) (D : va_G) (T : Nat → ClassId) (ad : Nat → Nat)  (sz : Nat)   (v1 : Int32) (v2 : Int32) (v3 : Int32) (sg : Sg) (lg : Lg) {ro : Int32} {so : Sg} {lo : Lg} (h : fX12_isBest v1 v2 v3 sg lg = some (ro, so, lo)) : Met l yX12_isBest wsX12_isBest rmX12_isBest (PreZ ZM D vwCl T (tysM T) ad sg lg false [] [.ref (ad 0), .int v1, .int v2, .int v3] sz) (QI ZM D vwCl T (tysM T) (va_A (zwd ZM T ad sg lg) sz) (fun z => ad = z) ro so lo) 0 0 (va_A (zwd ZM T ad sg lg) sz) :=
  metZ [.ref (ad 0), .int v1, .int v2, .int v3] sz (by decide) rfl (Nat.le_of_ble_eq_true rfl) (fun p e s m below meth c ls C hw hl => tX12_isBest_0 C v1 v2 v3 sg lg _ _ _ hw hl h)
-- PeckYardModel.best(J)J
def rmX12_best : Room := { frames := 8, cells := 0, slots := 0, locals := 190 }
theorem kX12_best_f24 : Cond.fieldLink RX12 24 "PeckYardModel" "waysOf" "[J" ∈ wsX12_best := by decide +kernel
theorem kX12_best_iX12 : ∀ w ∈ u_ws RX12 TX12 18, w ∈ wsX12_best := by decide +kernel
theorem kX12_best_f153 : Cond.fieldLink RX12 153 "PeckYardModel" "inHand" "I" ∈ wsX12_best := by decide +kernel
theorem kX12_best_f16 : Cond.fieldLink RX12 16 "PeckYardModel" "hand" "[I" ∈ wsX12_best := by decide +kernel
theorem kX12_best_c112 : Cond.constantLong RX12 112 (-2000000005) ∈ wsX12_best := by decide +kernel
theorem kX12_best_c72 : Cond.constantLong RX12 72 (-2000000001) ∈ wsX12_best := by decide +kernel
def fX12_best_129 (r48 : (Int32 × Int32 × Int64 × Sg × Lg) → Option (Int64 × Sg × Lg)) (r59 : (Int32 × Int32 × Int64 × Int32 × Sg × Lg) → Option (Int64 × Sg × Lg)) (v3 : Int32) (v4 : Int32) (v7 : Int32) (w0 : Int64) (w1 : Int64) (sg : Sg) (lg : Lg) : Option (Int64 × Sg × Lg) :=
  lt (w1 - w0) (fun x1 => lt (v7 + (1 : Int32)) (fun x2 => r59 (v3, v4, x1, x2, sg, lg)))
set_option maxHeartbeats 4000000 in
set_option maxRecDepth 100000 in
theorem tX12_best_129 (C : Cx p s m args meth c cX12_best 8 RX12 wsX12_best (some .long) D vwCl (tysM T) A false []) {ro : Int64} {so : Sg} {lo : Lg} {r48 : (Int32 × Int32 × Int64 × Sg × Lg) → Option (Int64 × Sg × Lg)} {r59 : (Int32 × Int32 × Int64 × Int32 × Sg × Lg) → Option (Int64 × Sg × Lg)} (hr48 : ∀ (v3 : Int32) (v4 : Int32) (v5 : Int64) (sg : Sg) (lg : Lg), r48 (v3, v4, v5, sg, lg) = some (ro, so, lo) → ∀ (H : Heap) (locs : List Loc) (ls : Array Slot), WS ZM D vwCl T ad sg lg A s.heap H locs → lv_has ls 8 [(0, .ref (ad 0)), (3, .int v3), (4, .int v4), (5, .long v5)] → W p l e rmX12_best s m args below meth c H locs 0 0 (MQ below (QL ZM D vwCl T (tysM T) A (fun z => ad = z) ro so lo) args s 0 0 A) (F0 m 48 ls [])) (hr59 : ∀ (v3 : Int32) (v4 : Int32) (v5 : Int64) (v7 : Int32) (sg : Sg) (lg : Lg), r59 (v3, v4, v5, v7, sg, lg) = some (ro, so, lo) → ∀ (H : Heap) (locs : List Loc) (ls : Array Slot), WS ZM D vwCl T ad sg lg A s.heap H locs → lv_has ls 8 [(0, .ref (ad 0)), (3, .int v3), (4, .int v4), (5, .long v5), (7, .int v7)] → W p l e rmX12_best s m args below meth c H locs 0 0 (MQ below (QL ZM D vwCl T (tysM T) A (fun z => ad = z) ro so lo) args s 0 0 A) (F0 m 59 ls [])) : ∀ (v3 : Int32) (v4 : Int32) (v7 : Int32) (w0 : Int64) (w1 : Int64) (sg : Sg) (lg : Lg), ∀ (H : Heap) (locs : List Loc) (ls : Array Slot), WS ZM D vwCl T ad sg lg A s.heap H locs → lv_has ls 8 [(0, .ref (ad 0)), (3, .int v3), (4, .int v4), (7, .int v7)] → fX12_best_129 r48 r59 v3 v4 v7 w0 w1 sg lg = some (ro, so, lo) → W p l e rmX12_best s m args below meth c H locs 0 0 (MQ below (QL ZM D vwCl T (tysM T) A (fun z => ad = z) ro so lo) args s 0 0 A) (F0 m 129 ls [.long w0, .long w1]) := by
  obtain ⟨⟨hx, hb, hml, hown, hts⟩, hr, hlk, hK, hA, hsp⟩ := id C
  intro v3 v4 v7 w0 w1 sg lg H locs ls hw hl h
  unfold fX12_best_129 at h
  refine lv_lsub hx hb dX12_best_129 ?_
  refine lv_topl (fun x1 ex1 => ?_)
  replace h := lt_get h x1 ex1
  refine lv_lstore (lv' := [(5, .long x1), (0, .ref (ad 0)), (3, .int v3), (4, .int v4), (7, .int v7)]) hx hb dX12_best_130 hl (by decide) rfl (fun ls hl => ?_)
  obtain ⟨x2, ex2⟩ : ∃ z : Int32, z = (v7 + (1 : Int32)) := ⟨_, rfl⟩
  replace h := lt_get h x2 ex2
  refine lv_iinc (v := x2) (lv' := [(7, .int x2), (5, .long x1), (0, .ref (ad 0)), (3, .int v3), (4, .int v4)]) hx hb dX12_best_132 hl (k := 4) rfl (by rw [ex2]; rfl) (by decide) rfl (fun ls hl => ?_)
  refine lv_goto (tgt := 59) hx hb dX12_best_135 (by decide) ?_
  exact hr59 v3 v4 x1 x2 sg lg h _ _ _ hw (lv_sub hl [2, 3, 4, 1, 0] rfl)
def fX12_best_94 (r48 : (Int32 × Int32 × Int64 × Sg × Lg) → Option (Int64 × Sg × Lg)) (r59 : (Int32 × Int32 × Int64 × Int32 × Sg × Lg) → Option (Int64 × Sg × Lg)) (v3 : Int32) (v4 : Int32) (v5 : Int64) (v7 : Int32) (sg : Sg) (lg : Lg) : Option (Int64 × Sg × Lg) :=
  bnd3 (fX12_isBest v7 v3 v4 sg lg) (fun y1 sg2 lg3 => (if y1 = 0 then fX12_best_129 r48 r59 v3 v4 v7 (0 : Int64) v5 sg2 lg3 else lt (((13 : Int32) * (v3 ||| ((1 : Int32) <<< (v7 &&& 31)))) + v7) (fun x6 => gin x6 53248 (fX12_best_129 r48 r59 v3 v4 v7 (lg3 5 x6.toNatClampNeg) v5 sg2 lg3))))
set_option maxHeartbeats 4000000 in
set_option maxRecDepth 100000 in
theorem tX12_best_94 (C : Cx p s m args meth c cX12_best 8 RX12 wsX12_best (some .long) D vwCl (tysM T) A false []) {ro : Int64} {so : Sg} {lo : Lg} {r48 : (Int32 × Int32 × Int64 × Sg × Lg) → Option (Int64 × Sg × Lg)} {r59 : (Int32 × Int32 × Int64 × Int32 × Sg × Lg) → Option (Int64 × Sg × Lg)} (hr48 : ∀ (v3 : Int32) (v4 : Int32) (v5 : Int64) (sg : Sg) (lg : Lg), r48 (v3, v4, v5, sg, lg) = some (ro, so, lo) → ∀ (H : Heap) (locs : List Loc) (ls : Array Slot), WS ZM D vwCl T ad sg lg A s.heap H locs → lv_has ls 8 [(0, .ref (ad 0)), (3, .int v3), (4, .int v4), (5, .long v5)] → W p l e rmX12_best s m args below meth c H locs 0 0 (MQ below (QL ZM D vwCl T (tysM T) A (fun z => ad = z) ro so lo) args s 0 0 A) (F0 m 48 ls [])) (hr59 : ∀ (v3 : Int32) (v4 : Int32) (v5 : Int64) (v7 : Int32) (sg : Sg) (lg : Lg), r59 (v3, v4, v5, v7, sg, lg) = some (ro, so, lo) → ∀ (H : Heap) (locs : List Loc) (ls : Array Slot), WS ZM D vwCl T ad sg lg A s.heap H locs → lv_has ls 8 [(0, .ref (ad 0)), (3, .int v3), (4, .int v4), (5, .long v5), (7, .int v7)] → W p l e rmX12_best s m args below meth c H locs 0 0 (MQ below (QL ZM D vwCl T (tysM T) A (fun z => ad = z) ro so lo) args s 0 0 A) (F0 m 59 ls [])) : ∀ (v3 : Int32) (v4 : Int32) (v5 : Int64) (v7 : Int32) (sg : Sg) (lg : Lg), ∀ (H : Heap) (locs : List Loc) (ls : Array Slot), WS ZM D vwCl T ad sg lg A s.heap H locs → lv_has ls 8 [(0, .ref (ad 0)), (3, .int v3), (4, .int v4), (5, .long v5), (7, .int v7)] → fX12_best_94 r48 r59 v3 v4 v5 v7 sg lg = some (ro, so, lo) → W p l e rmX12_best s m args below meth c H locs 0 0 (MQ below (QL ZM D vwCl T (tysM T) A (fun z => ad = z) ro so lo) args s 0 0 A) (F0 m 94 ls []) := by
  obtain ⟨⟨hx, hb, hml, hown, hts⟩, hr, hlk, hK, hA, hsp⟩ := id C
  intro v3 v4 v5 v7 sg lg H locs ls hw hl h
  unfold fX12_best_94 at h
  refine lv_lload hx hb dX12_best_94 (lv_at hl 3 rfl) ?_
  refine lv_aload_n hx hb dX12_best_96 rfl (lv_at hl 0 rfl) ?_
  refine lv_iload hx hb dX12_best_97 (lv_at hl 4 rfl) ?_
  refine lv_iload_n hx hb dX12_best_99 rfl (lv_at hl 1 rfl) ?_
  refine lv_iload hx hb dX12_best_100 (lv_at hl 2 rfl) ?_
  obtain ⟨y1, sg2, lg3, hq4, h2⟩ := bnd3_some h
  replace h := h2
  clear h2
  refine r_cVi (As := [.int v7, .int v3, .int v4]) (rest := [.long v5]) C hw 0 (by decide) (ci := 12) rfl rfl (mX12_isBest l D T ad  H.size v7 v3 v4 sg lg hq4) (cwV 3 hts gX12_best_X12_isBest rfl rfl rfl (by decide +kernel) ⟨Nat.le_of_ble_eq_true rfl, Nat.le_of_ble_eq_true rfl⟩) rfl hl.1 rfl (Nat.le_of_ble_eq_true rfl) dX12_best_102 ⟨Nat.le_of_ble_eq_true rfl, Nat.le_of_ble_eq_true rfl⟩ (fun ad' H locs hp hw => ?_)
  subst hp
  refine W.widen (k := 0) (n := 0) (by decide) (by decide) ?_
  refine lv_if_eq (tgt := 128) hx hb dX12_best_105 (by decide) (fun c5 => ?_) (fun c5 => ?_)
  · replace h := ite_t h c5
    refine lv_lconst (v := (0 : Int64)) hx hb dX12_best_128 (by decide) ?_
    exact tX12_best_129 C hr48 hr59 v3 v4 v7 (0 : Int64) v5 sg2 lg3 _ _ _ hw (lv_sub hl [0, 1, 2, 4] rfl) h
  · replace h := ite_f h c5
    refine lv_aload_n hx hb dX12_best_108 rfl (lv_at hl 0 rfl) ?_
    refine r_getR (ci := 12) (C := RX12) (U := TX12) (N := 18) hx hb hts kX12_best_iX12 hown hK hw 0 (by decide) rfl rfl 6 (by decide) 5 rfl (hts _ kX12_best_f24) (fun _ h9 => h9) dX12_best_109 ?_
    refine lv_bipush (v := (13 : Int32)) hx hb dX12_best_112 (by decide) ?_
    refine lv_iload_n hx hb dX12_best_114 rfl (lv_at hl 1 rfl) ?_
    refine lv_iconst (v := (1 : Int32)) hx hb dX12_best_115 (by decide) ?_
    refine lv_iload hx hb dX12_best_116 (lv_at hl 4 rfl) ?_
    refine lv_ishl hx hb dX12_best_118 ?_
    refine lv_ior hx hb dX12_best_119 ?_
    refine lv_imul hx hb dX12_best_120 ?_
    refine lv_iload hx hb dX12_best_121 (lv_at hl 4 rfl) ?_
    refine lv_iadd hx hb dX12_best_123 ?_
    refine lv_topi (fun x6 ex6 => ?_)
    replace h := lt_get h x6 ex6
    have hi7 := (gin_some h).1
    replace h := (gin_some h).2
    refine r_lald hx hb hK hw 5 2 53248 (by decide) rfl rfl rfl hi7 dX12_best_124 ?_
    refine lv_goto (tgt := 129) hx hb dX12_best_125 (by decide) ?_
    exact tX12_best_129 C hr48 hr59 v3 v4 v7 (lg3 5 x6.toNatClampNeg) v5 sg2 lg3 _ _ _ hw (lv_sub hl [0, 1, 2, 4] rfl) h
def fX12_best_59 (r48 : (Int32 × Int32 × Int64 × Sg × Lg) → Option (Int64 × Sg × Lg)) (r59 : (Int32 × Int32 × Int64 × Int32 × Sg × Lg) → Option (Int64 × Sg × Lg)) (v3 : Int32) (v4 : Int32) (v5 : Int64) (v7 : Int32) (sg : Sg) (lg : Lg) : Option (Int64 × Sg × Lg) :=
  bnd3 (fX12_isBest v7 v3 v4 sg lg) (fun y1 sg2 lg3 => (if y1 = 0 then fX12_best_94 r48 r59 v3 v4 v5 v7 sg2 lg3 else lt (((13 : Int32) * (v3 ||| ((1 : Int32) <<< (v7 &&& 31)))) + v7) (fun x6 => gin x6 53248 ((if v5 < (lg3 5 x6.toNatClampNeg) then gin (sg2 0 4) 12 (lt (up2 sg2 3 (sg2 0 4).toNatClampNeg v7) (fun sg10 => lt ((sg10 0 4) + (1 : Int32)) (fun x11 => lt (up2 sg10 0 4 x11) (fun sg12 => lt (v3 ||| ((1 : Int32) <<< (v7 &&& 31))) (fun x13 => r48 (x13, v7, v5, sg12, lg3)))))) else fX12_best_94 r48 r59 v3 v4 v5 v7 sg2 lg3)))))
set_option maxHeartbeats 4000000 in
set_option maxRecDepth 100000 in
theorem tX12_best_59 (C : Cx p s m args meth c cX12_best 8 RX12 wsX12_best (some .long) D vwCl (tysM T) A false []) {ro : Int64} {so : Sg} {lo : Lg} {r48 : (Int32 × Int32 × Int64 × Sg × Lg) → Option (Int64 × Sg × Lg)} {r59 : (Int32 × Int32 × Int64 × Int32 × Sg × Lg) → Option (Int64 × Sg × Lg)} (hr48 : ∀ (v3 : Int32) (v4 : Int32) (v5 : Int64) (sg : Sg) (lg : Lg), r48 (v3, v4, v5, sg, lg) = some (ro, so, lo) → ∀ (H : Heap) (locs : List Loc) (ls : Array Slot), WS ZM D vwCl T ad sg lg A s.heap H locs → lv_has ls 8 [(0, .ref (ad 0)), (3, .int v3), (4, .int v4), (5, .long v5)] → W p l e rmX12_best s m args below meth c H locs 0 0 (MQ below (QL ZM D vwCl T (tysM T) A (fun z => ad = z) ro so lo) args s 0 0 A) (F0 m 48 ls [])) (hr59 : ∀ (v3 : Int32) (v4 : Int32) (v5 : Int64) (v7 : Int32) (sg : Sg) (lg : Lg), r59 (v3, v4, v5, v7, sg, lg) = some (ro, so, lo) → ∀ (H : Heap) (locs : List Loc) (ls : Array Slot), WS ZM D vwCl T ad sg lg A s.heap H locs → lv_has ls 8 [(0, .ref (ad 0)), (3, .int v3), (4, .int v4), (5, .long v5), (7, .int v7)] → W p l e rmX12_best s m args below meth c H locs 0 0 (MQ below (QL ZM D vwCl T (tysM T) A (fun z => ad = z) ro so lo) args s 0 0 A) (F0 m 59 ls [])) : ∀ (v3 : Int32) (v4 : Int32) (v5 : Int64) (v7 : Int32) (sg : Sg) (lg : Lg), ∀ (H : Heap) (locs : List Loc) (ls : Array Slot), WS ZM D vwCl T ad sg lg A s.heap H locs → lv_has ls 8 [(0, .ref (ad 0)), (3, .int v3), (4, .int v4), (5, .long v5), (7, .int v7)] → fX12_best_59 r48 r59 v3 v4 v5 v7 sg lg = some (ro, so, lo) → W p l e rmX12_best s m args below meth c H locs 0 0 (MQ below (QL ZM D vwCl T (tysM T) A (fun z => ad = z) ro so lo) args s 0 0 A) (F0 m 59 ls []) := by
  obtain ⟨⟨hx, hb, hml, hown, hts⟩, hr, hlk, hK, hA, hsp⟩ := id C
  intro v3 v4 v5 v7 sg lg H locs ls hw hl h
  unfold fX12_best_59 at h
  refine lv_aload_n hx hb dX12_best_59 rfl (lv_at hl 0 rfl) ?_
  refine lv_iload hx hb dX12_best_60 (lv_at hl 4 rfl) ?_
  refine lv_iload_n hx hb dX12_best_62 rfl (lv_at hl 1 rfl) ?_
  refine lv_iload hx hb dX12_best_63 (lv_at hl 2 rfl) ?_
  obtain ⟨y1, sg2, lg3, hq4, h2⟩ := bnd3_some h
  replace h := h2
  clear h2
  refine r_cVi (As := [.int v7, .int v3, .int v4]) (rest := []) C hw 0 (by decide) (ci := 12) rfl rfl (mX12_isBest l D T ad  H.size v7 v3 v4 sg lg hq4) (cwV 3 hts gX12_best_X12_isBest rfl rfl rfl (by decide +kernel) ⟨Nat.le_of_ble_eq_true rfl, Nat.le_of_ble_eq_true rfl⟩) rfl hl.1 rfl (Nat.le_of_ble_eq_true rfl) dX12_best_65 ⟨Nat.le_of_ble_eq_true rfl, Nat.le_of_ble_eq_true rfl⟩ (fun ad' H locs hp hw => ?_)
  subst hp
  refine W.widen (k := 0) (n := 0) (by decide) (by decide) ?_
  refine lv_if_eq (tgt := 94) hx hb dX12_best_68 (by decide) (fun c5 => ?_) (fun c5 => ?_)
  · replace h := ite_t h c5
    exact tX12_best_94 C hr48 hr59 v3 v4 v5 v7 sg2 lg3 _ _ _ hw (lv_sub hl [0, 1, 2, 3, 4] rfl) h
  · replace h := ite_f h c5
    refine lv_lload hx hb dX12_best_71 (lv_at hl 3 rfl) ?_
    refine lv_aload_n hx hb dX12_best_73 rfl (lv_at hl 0 rfl) ?_
    refine r_getR (ci := 12) (C := RX12) (U := TX12) (N := 18) hx hb hts kX12_best_iX12 hown hK hw 0 (by decide) rfl rfl 6 (by decide) 5 rfl (hts _ kX12_best_f24) (fun _ h9 => h9) dX12_best_74 ?_
    refine lv_bipush (v := (13 : Int32)) hx hb dX12_best_77 (by decide) ?_
    refine lv_iload_n hx hb dX12_best_79 rfl (lv_at hl 1 rfl) ?_
    refine lv_iconst (v := (1 : Int32)) hx hb dX12_best_80 (by decide) ?_
    refine lv_iload hx hb dX12_best_81 (lv_at hl 4 rfl) ?_
    refine lv_ishl hx hb dX12_best_83 ?_
    refine lv_ior hx hb dX12_best_84 ?_
    refine lv_imul hx hb dX12_best_85 ?_
    refine lv_iload hx hb dX12_best_86 (lv_at hl 4 rfl) ?_
    refine lv_iadd hx hb dX12_best_88 ?_
    refine lv_topi (fun x6 ex6 => ?_)
    replace h := lt_get h x6 ex6
    have hi7 := (gin_some h).1
    replace h := (gin_some h).2
    refine r_lald hx hb hK hw 5 2 53248 (by decide) rfl rfl rfl hi7 dX12_best_89 ?_
    refine W.lcmp hx hb dX12_best_90 ?_
    refine lv_if_lt (tgt := 138) hx hb dX12_best_91 (by decide) (fun c8 => ?_) (fun c8 => ?_)
    · replace h := ite_t h ((lg_cmp_lt _ _).mp c8)
      refine lv_aload_n hx hb dX12_best_138 rfl (lv_at hl 0 rfl) ?_
      refine r_getR (ci := 12) (C := RX12) (U := TX12) (N := 18) hx hb hts kX12_best_iX12 hown hK hw 0 (by decide) rfl rfl 3 (by decide) 3 rfl (hts _ kX12_best_f16) (fun _ h9 => h9) dX12_best_139 ?_
      refine lv_aload_n hx hb dX12_best_142 rfl (lv_at hl 0 rfl) ?_
      refine r_getI (ci := 12) (C := RX12) (U := TX12) (N := 18) hx hb hts kX12_best_iX12 hown hK hw 0 (by decide) rfl rfl 4 (by decide) rfl (hts _ kX12_best_f153) (fun _ h9 => h9) dX12_best_143 ?_
      refine lv_iload hx hb dX12_best_146 (lv_at hl 4 rfl) ?_
      have hi9 := (gin_some h).1
      replace h := (gin_some h).2
      refine r_iast ZM_ok hx hb hK hw 3 0 12 (by decide) rfl rfl rfl hi9 dX12_best_148 (fun H locs sg10 esg10 hw => ?_)
      replace h := lt_get h sg10 esg10
      refine lv_aload_n hx hb dX12_best_149 rfl (lv_at hl 0 rfl) ?_
      refine lv_dup hx hb dX12_best_150 rfl ?_
      refine r_getI (ci := 12) (C := RX12) (U := TX12) (N := 18) hx hb hts kX12_best_iX12 hown hK hw 0 (by decide) rfl rfl 4 (by decide) rfl (hts _ kX12_best_f153) (fun _ h9 => h9) dX12_best_151 ?_
      refine lv_iconst (v := (1 : Int32)) hx hb dX12_best_154 (by decide) ?_
      refine lv_iadd hx hb dX12_best_155 ?_
      refine lv_topi (fun x11 ex11 => ?_)
      replace h := lt_get h x11 ex11
      refine r_putI ZM_ok (ci := 12) (C := RX12) (U := TX12) (N := 18) (ty := .int) hx hb hts kX12_best_iX12 tyX12 tyX12_ok nmX12 hown hK hw 0 (by decide) rfl rfl 4 (by decide) rfl (hts _ kX12_best_f153) (fun _ h9 => h9) rfl (by decide +kernel) rfl rfl dX12_best_156 (fun H locs sg12 esg12 hw => ?_)
      replace h := lt_get h sg12 esg12
      refine lv_iload_n hx hb dX12_best_159 rfl (lv_at hl 1 rfl) ?_
      refine lv_iconst (v := (1 : Int32)) hx hb dX12_best_160 (by decide) ?_
      refine lv_iload hx hb dX12_best_161 (lv_at hl 4 rfl) ?_
      refine lv_ishl hx hb dX12_best_163 ?_
      refine lv_ior hx hb dX12_best_164 ?_
      refine lv_topi (fun x13 ex13 => ?_)
      replace h := lt_get h x13 ex13
      refine lv_istore_n (lv' := [(3, .int x13), (0, .ref (ad 0)), (4, .int v4), (5, .long v5), (7, .int v7)]) hx hb dX12_best_165 rfl hl (by decide) rfl (fun ls hl => ?_)
      refine lv_iload hx hb dX12_best_166 (lv_at hl 4 rfl) ?_
      refine lv_istore (lv' := [(4, .int v7), (3, .int x13), (0, .ref (ad 0)), (5, .long v5), (7, .int v7)]) hx hb dX12_best_168 hl (by decide) rfl (fun ls hl => ?_)
      refine lv_goto (tgt := 48) hx hb dX12_best_170 (by decide) ?_
      exact hr48 x13 v7 v5 sg12 lg3 h _ _ _ hw (lv_sub hl [2, 1, 0, 3] rfl)
    · replace h := ite_f h (fun z => c8 ((lg_cmp_lt _ _).mpr z))
      exact tX12_best_94 C hr48 hr59 v3 v4 v5 v7 sg2 lg3 _ _ _ hw (lv_sub hl [0, 1, 2, 3, 4] rfl) h
def LX12_best_59 (r48 : (Int32 × Int32 × Int64 × Sg × Lg) → Option (Int64 × Sg × Lg)) : (Int32 × Int32 × Int64 × Int32 × Sg × Lg) → Option (Int64 × Sg × Lg) := loop (fun rec z => fX12_best_59 r48 rec z.1 z.2.1 z.2.2.1 z.2.2.2.1 z.2.2.2.2.1 z.2.2.2.2.2)
theorem TX12_best_59 (C : Cx p s m args meth c cX12_best 8 RX12 wsX12_best (some .long) D vwCl (tysM T) A false []) {ro : Int64} {so : Sg} {lo : Lg} {r48 : (Int32 × Int32 × Int64 × Sg × Lg) → Option (Int64 × Sg × Lg)} (hr48 : ∀ (v3 : Int32) (v4 : Int32) (v5 : Int64) (sg : Sg) (lg : Lg), r48 (v3, v4, v5, sg, lg) = some (ro, so, lo) → ∀ (H : Heap) (locs : List Loc) (ls : Array Slot), WS ZM D vwCl T ad sg lg A s.heap H locs → lv_has ls 8 [(0, .ref (ad 0)), (3, .int v3), (4, .int v4), (5, .long v5)] → W p l e rmX12_best s m args below meth c H locs 0 0 (MQ below (QL ZM D vwCl T (tysM T) A (fun z => ad = z) ro so lo) args s 0 0 A) (F0 m 48 ls [])) : ∀ (v3 : Int32) (v4 : Int32) (v5 : Int64) (v7 : Int32) (sg : Sg) (lg : Lg), LX12_best_59 r48 (v3, v4, v5, v7, sg, lg) = some (ro, so, lo) → ∀ (H : Heap) (locs : List Loc) (ls : Array Slot), WS ZM D vwCl T ad sg lg A s.heap H locs → lv_has ls 8 [(0, .ref (ad 0)), (3, .int v3), (4, .int v4), (5, .long v5), (7, .int v7)] → W p l e rmX12_best s m args below meth c H locs 0 0 (MQ below (QL ZM D vwCl T (tysM T) A (fun z => ad = z) ro so lo) args s 0 0 A) (F0 m 59 ls []) := by
  have key : ∀ z : (Int32 × Int32 × Int64 × Int32 × Sg × Lg), LX12_best_59 r48 z = some (ro, so, lo) → ∀ (H : Heap) (locs : List Loc) (ls : Array Slot), WS ZM D vwCl T ad z.2.2.2.2.1 z.2.2.2.2.2 A s.heap H locs → lv_has ls 8 [(0, .ref (ad 0)), (3, .int z.1), (4, .int z.2.1), (5, .long z.2.2.1), (7, .int z.2.2.2.1)] → W p l e rmX12_best s m args below meth c H locs 0 0 (MQ below (QL ZM D vwCl T (tysM T) A (fun z => ad = z) ro so lo) args s 0 0 A) (F0 m 59 ls []) := by
    intro z h
    unfold LX12_best_59 at h
    exact loop_ind (fun rec z => fX12_best_59 r48 rec z.1 z.2.1 z.2.2.1 z.2.2.2.1 z.2.2.2.2.1 z.2.2.2.2.2) (y := (ro, so, lo)) (P := fun z => ∀ (H : Heap) (locs : List Loc) (ls : Array Slot), WS ZM D vwCl T ad z.2.2.2.2.1 z.2.2.2.2.2 A s.heap H locs → lv_has ls 8 [(0, .ref (ad 0)), (3, .int z.1), (4, .int z.2.1), (5, .long z.2.2.1), (7, .int z.2.2.2.1)] → W p l e rmX12_best s m args below meth c H locs 0 0 (MQ below (QL ZM D vwCl T (tysM T) A (fun z => ad = z) ro so lo) args s 0 0 A) (F0 m 59 ls [])) (fun rec hrec z h H locs ls hw hl => tX12_best_59 C hr48 (fun v3 v4 v5 v7 sg lg => hrec (v3, v4, v5, v7, sg, lg)) z.1 z.2.1 z.2.2.1 z.2.2.2.1 z.2.2.2.2.1 z.2.2.2.2.2 H locs ls hw hl h) z h
  exact fun v3 v4 v5 v7 sg lg => key (v3, v4, v5, v7, sg, lg)
def fX12_best_48 (r48 : (Int32 × Int32 × Int64 × Sg × Lg) → Option (Int64 × Sg × Lg)) (v3 : Int32) (v4 : Int32) (v5 : Int64) (sg : Sg) (lg : Lg) : Option (Int64 × Sg × Lg) :=
  bnd3 (fX12_counting sg lg) (fun y1 sg2 lg3 => (if v3 = y1 then some ((sg2 0 4).toInt64, sg2, lg3) else LX12_best_59 r48 (v3, v4, v5, (0 : Int32), sg2, lg3)))
set_option maxHeartbeats 4000000 in
set_option maxRecDepth 100000 in
theorem tX12_best_48 (C : Cx p s m args meth c cX12_best 8 RX12 wsX12_best (some .long) D vwCl (tysM T) A false []) {ro : Int64} {so : Sg} {lo : Lg} {r48 : (Int32 × Int32 × Int64 × Sg × Lg) → Option (Int64 × Sg × Lg)} (hr48 : ∀ (v3 : Int32) (v4 : Int32) (v5 : Int64) (sg : Sg) (lg : Lg), r48 (v3, v4, v5, sg, lg) = some (ro, so, lo) → ∀ (H : Heap) (locs : List Loc) (ls : Array Slot), WS ZM D vwCl T ad sg lg A s.heap H locs → lv_has ls 8 [(0, .ref (ad 0)), (3, .int v3), (4, .int v4), (5, .long v5)] → W p l e rmX12_best s m args below meth c H locs 0 0 (MQ below (QL ZM D vwCl T (tysM T) A (fun z => ad = z) ro so lo) args s 0 0 A) (F0 m 48 ls [])) : ∀ (v3 : Int32) (v4 : Int32) (v5 : Int64) (sg : Sg) (lg : Lg), ∀ (H : Heap) (locs : List Loc) (ls : Array Slot), WS ZM D vwCl T ad sg lg A s.heap H locs → lv_has ls 8 [(0, .ref (ad 0)), (3, .int v3), (4, .int v4), (5, .long v5)] → fX12_best_48 r48 v3 v4 v5 sg lg = some (ro, so, lo) → W p l e rmX12_best s m args below meth c H locs 0 0 (MQ below (QL ZM D vwCl T (tysM T) A (fun z => ad = z) ro so lo) args s 0 0 A) (F0 m 48 ls []) := by
  obtain ⟨⟨hx, hb, hml, hown, hts⟩, hr, hlk, hK, hA, hsp⟩ := id C
  intro v3 v4 v5 sg lg H locs ls hw hl h
  unfold fX12_best_48 at h
  refine lv_iload_n hx hb dX12_best_48 rfl (lv_at hl 1 rfl) ?_
  refine lv_aload_n hx hb dX12_best_49 rfl (lv_at hl 0 rfl) ?_
  obtain ⟨y1, sg2, lg3, hq4, h2⟩ := bnd3_some h
  replace h := h2
  clear h2
  refine r_cVi (As := []) (rest := [.int v3]) C hw 0 (by decide) (ci := 12) rfl rfl (mX12_counting l D T ad  H.size sg lg hq4) (cwV 0 hts gX12_best_X12_counting rfl rfl rfl (by decide +kernel) ⟨Nat.le_of_ble_eq_true rfl, Nat.le_of_ble_eq_true rfl⟩) rfl hl.1 rfl (Nat.le_of_ble_eq_true rfl) dX12_best_50 ⟨Nat.le_of_ble_eq_true rfl, Nat.le_of_ble_eq_true rfl⟩ (fun ad' H locs hp hw => ?_)
  subst hp
  refine W.widen (k := 0) (n := 0) (by decide) (by decide) ?_
  refine lv_icmp_eq (tgt := 173) hx hb dX12_best_53 (by decide) (fun c5 => ?_) (fun c5 => ?_)
  · replace h := ite_t h c5
    refine lv_aload_n hx hb dX12_best_173 rfl (lv_at hl 0 rfl) ?_
    refine r_getI (ci := 12) (C := RX12) (U := TX12) (N := 18) hx hb hts kX12_best_iX12 hown hK hw 0 (by decide) rfl rfl 4 (by decide) rfl (hts _ kX12_best_f153) (fun _ h9 => h9) dX12_best_174 ?_
    refine lv_i2l (v := (sg2 0 4).toInt64) hx hb dX12_best_177 rfl ?_
    cases h
    exact r_lret C hw rfl (by decide) (by decide) dX12_best_178
  · replace h := ite_f h c5
    refine lv_iconst (v := (0 : Int32)) hx hb dX12_best_56 (by decide) ?_
    refine lv_istore (lv' := [(7, .int (0 : Int32)), (0, .ref (ad 0)), (3, .int v3), (4, .int v4), (5, .long v5)]) hx hb dX12_best_57 hl (by decide) rfl (fun ls hl => ?_)
    exact TX12_best_59 C hr48 v3 v4 v5 (0 : Int32) sg2 lg3 h _ _ _ hw (lv_sub hl [1, 2, 3, 4, 0] rfl)
def LX12_best_48  : (Int32 × Int32 × Int64 × Sg × Lg) → Option (Int64 × Sg × Lg) := loop (fun rec z => fX12_best_48 rec z.1 z.2.1 z.2.2.1 z.2.2.2.1 z.2.2.2.2)
theorem TX12_best_48 (C : Cx p s m args meth c cX12_best 8 RX12 wsX12_best (some .long) D vwCl (tysM T) A false []) {ro : Int64} {so : Sg} {lo : Lg}   : ∀ (v3 : Int32) (v4 : Int32) (v5 : Int64) (sg : Sg) (lg : Lg), LX12_best_48 (v3, v4, v5, sg, lg) = some (ro, so, lo) → ∀ (H : Heap) (locs : List Loc) (ls : Array Slot), WS ZM D vwCl T ad sg lg A s.heap H locs → lv_has ls 8 [(0, .ref (ad 0)), (3, .int v3), (4, .int v4), (5, .long v5)] → W p l e rmX12_best s m args below meth c H locs 0 0 (MQ below (QL ZM D vwCl T (tysM T) A (fun z => ad = z) ro so lo) args s 0 0 A) (F0 m 48 ls []) := by
  have key : ∀ z : (Int32 × Int32 × Int64 × Sg × Lg), LX12_best_48  z = some (ro, so, lo) → ∀ (H : Heap) (locs : List Loc) (ls : Array Slot), WS ZM D vwCl T ad z.2.2.2.1 z.2.2.2.2 A s.heap H locs → lv_has ls 8 [(0, .ref (ad 0)), (3, .int z.1), (4, .int z.2.1), (5, .long z.2.2.1)] → W p l e rmX12_best s m args below meth c H locs 0 0 (MQ below (QL ZM D vwCl T (tysM T) A (fun z => ad = z) ro so lo) args s 0 0 A) (F0 m 48 ls []) := by
    intro z h
    unfold LX12_best_48 at h
    exact loop_ind (fun rec z => fX12_best_48 rec z.1 z.2.1 z.2.2.1 z.2.2.2.1 z.2.2.2.2) (y := (ro, so, lo)) (P := fun z => ∀ (H : Heap) (locs : List Loc) (ls : Array Slot), WS ZM D vwCl T ad z.2.2.2.1 z.2.2.2.2 A s.heap H locs → lv_has ls 8 [(0, .ref (ad 0)), (3, .int z.1), (4, .int z.2.1), (5, .long z.2.2.1)] → W p l e rmX12_best s m args below meth c H locs 0 0 (MQ below (QL ZM D vwCl T (tysM T) A (fun z => ad = z) ro so lo) args s 0 0 A) (F0 m 48 ls [])) (fun rec hrec z h H locs ls hw hl => tX12_best_48 C  (fun v3 v4 v5 sg lg => hrec (v3, v4, v5, sg, lg)) z.1 z.2.1 z.2.2.1 z.2.2.2.1 z.2.2.2.2 H locs ls hw hl h) z h
  exact fun v3 v4 v5 sg lg => key (v3, v4, v5, sg, lg)
def fX12_best  (v1 : Int64) (sg : Sg) (lg : Lg) : Option (Int64 × Sg × Lg) :=
  (if (0 : Int64) ≤ v1 then bnd2 (fX12_fill (1 : Int32) (-1 : Int32) (-1 : Int32) sg lg) (fun sg2 lg3 => bnd3 (fX12_begun sg2 lg3) (fun y5 sg6 lg7 => gin y5 53248 ((if v1 < (lg7 5 y5.toNatClampNeg) then lt (up2 sg6 0 4 (0 : Int32)) (fun sg11 => LX12_best_48 ((0 : Int32), (12 : Int32), v1, sg11, lg7)) else some ((-2000000005 : Int64), sg6, lg7))))) else some ((-2000000001 : Int64), sg, lg))
set_option maxHeartbeats 4000000 in
set_option maxRecDepth 100000 in
theorem tX12_best_0 (C : Cx p s m args meth c cX12_best 8 RX12 wsX12_best (some .long) D vwCl (tysM T) A false []) {ro : Int64} {so : Sg} {lo : Lg}   : ∀ (v1 : Int64) (sg : Sg) (lg : Lg), ∀ (H : Heap) (locs : List Loc) (ls : Array Slot), WS ZM D vwCl T ad sg lg A s.heap H locs → lv_has ls 8 [(0, .ref (ad 0)), (1, .long v1)] → fX12_best v1 sg lg = some (ro, so, lo) → W p l e rmX12_best s m args below meth c H locs 0 0 (MQ below (QL ZM D vwCl T (tysM T) A (fun z => ad = z) ro so lo) args s 0 0 A) (F0 m 0 ls []) := by
  obtain ⟨⟨hx, hb, hml, hown, hts⟩, hr, hlk, hK, hA, hsp⟩ := id C
  intro v1 sg lg H locs ls hw hl h
  unfold fX12_best at h
  refine lv_lload_n hx hb dX12_best_0 rfl (lv_at hl 1 rfl) ?_
  refine lv_lconst (v := (0 : Int64)) hx hb dX12_best_1 (by decide) ?_
  refine W.lcmp hx hb dX12_best_2 ?_
  refine lv_if_ge (tgt := 10) hx hb dX12_best_3 (by decide) (fun c1 => ?_) (fun c1 => ?_)
  · replace h := ite_t h ((lg_cmp_ge _ _).mp c1)
    refine lv_aload_n hx hb dX12_best_10 rfl (lv_at hl 0 rfl) ?_
    refine lv_iconst (v := (1 : Int32)) hx hb dX12_best_11 (by decide) ?_
    refine lv_iconst (v := (-1 : Int32)) hx hb dX12_best_12 (by decide) ?_
    refine lv_iconst (v := (-1 : Int32)) hx hb dX12_best_13 (by decide) ?_
    obtain ⟨sg2, lg3, hq4, h2⟩ := bnd2_some h
    replace h := h2
    clear h2
    refine r_cVv (As := [.int (1 : Int32), .int (-1 : Int32), .int (-1 : Int32)]) (rest := []) C hw 0 (by decide) (ci := 12) rfl rfl (mX12_fill l D T ad  H.size (1 : Int32) (-1 : Int32) (-1 : Int32) sg lg hq4) (cwV 3 hts gX12_best_X12_fill rfl rfl rfl (by decide +kernel) ⟨Nat.le_of_ble_eq_true rfl, Nat.le_of_ble_eq_true rfl⟩) rfl hl.1 rfl (Nat.le_of_ble_eq_true rfl) dX12_best_14 ⟨Nat.le_of_ble_eq_true rfl, Nat.le_of_ble_eq_true rfl⟩ (fun ad' H locs hp hw => ?_)
    subst hp
    refine W.widen (k := 0) (n := 0) (by decide) (by decide) ?_
    refine lv_lload_n hx hb dX12_best_17 rfl (lv_at hl 1 rfl) ?_
    refine lv_aload_n hx hb dX12_best_18 rfl (lv_at hl 0 rfl) ?_
    refine r_getR (ci := 12) (C := RX12) (U := TX12) (N := 18) hx hb hts kX12_best_iX12 hown hK hw 0 (by decide) rfl rfl 6 (by decide) 5 rfl (hts _ kX12_best_f24) (fun _ h9 => h9) dX12_best_19 ?_
    obtain ⟨y5, sg6, lg7, hq8, h2⟩ := bnd3_some h
    replace h := h2
    clear h2
    refine r_cSi (As := []) (rest := [.ref (ad 5), .long v1]) C hw (mX12_begun l D T ad  H.size sg2 lg3 hq8) (va_cwS 0 hts gX12_best_X12_begun rfl rfl rfl (by decide +kernel) ⟨Nat.le_of_ble_eq_true rfl, Nat.le_of_ble_eq_true rfl⟩) rfl hl.1 rfl (Nat.le_of_ble_eq_true rfl) dX12_best_22 ⟨Nat.le_of_ble_eq_true rfl, Nat.le_of_ble_eq_true rfl⟩ (fun ad' H locs hp hw => ?_)
    subst hp
    refine W.widen (k := 0) (n := 0) (by decide) (by decide) ?_
    have hi9 := (gin_some h).1
    replace h := (gin_some h).2
    refine r_lald hx hb hK hw 5 2 53248 (by decide) rfl rfl rfl hi9 dX12_best_25 ?_
    refine W.lcmp hx hb dX12_best_26 ?_
    refine lv_if_lt (tgt := 34) hx hb dX12_best_27 (by decide) (fun c10 => ?_) (fun c10 => ?_)
    · replace h := ite_t h ((lg_cmp_lt _ _).mp c10)
      refine lv_iconst (v := (0 : Int32)) hx hb dX12_best_34 (by decide) ?_
      refine lv_istore_n (lv' := [(3, .int (0 : Int32)), (0, .ref (ad 0)), (1, .long v1)]) hx hb dX12_best_35 rfl hl (by decide) rfl (fun ls hl => ?_)
      refine lv_bipush (v := (12 : Int32)) hx hb dX12_best_36 (by decide) ?_
      refine lv_istore (lv' := [(4, .int (12 : Int32)), (3, .int (0 : Int32)), (0, .ref (ad 0)), (1, .long v1)]) hx hb dX12_best_38 hl (by decide) rfl (fun ls hl => ?_)
      refine lv_lload_n hx hb dX12_best_40 rfl (lv_at hl 3 rfl) ?_
      refine lv_lstore (lv' := [(5, .long v1), (4, .int (12 : Int32)), (3, .int (0 : Int32)), (0, .ref (ad 0)), (1, .long v1)]) hx hb dX12_best_41 hl (by decide) rfl (fun ls hl => ?_)
      refine lv_aload_n hx hb dX12_best_43 rfl (lv_at hl 3 rfl) ?_
      refine lv_iconst (v := (0 : Int32)) hx hb dX12_best_44 (by decide) ?_
      refine r_putI ZM_ok (ci := 12) (C := RX12) (U := TX12) (N := 18) (ty := .int) hx hb hts kX12_best_iX12 tyX12 tyX12_ok nmX12 hown hK hw 0 (by decide) rfl rfl 4 (by decide) rfl (hts _ kX12_best_f153) (fun _ h9 => h9) rfl (by decide +kernel) rfl rfl dX12_best_45 (fun H locs sg11 esg11 hw => ?_)
      replace h := lt_get h sg11 esg11
      exact TX12_best_48 C (0 : Int32) (12 : Int32) v1 sg11 lg7 h _ _ _ hw (lv_sub hl [3, 2, 1, 0] rfl)
    · replace h := ite_f h (fun z => c10 ((lg_cmp_lt _ _).mpr z))
      refine lv_ldc2 hx hb hown (hts _ kX12_best_c112) dX12_best_30 ?_
      cases h
      exact r_lret C hw rfl (by decide) (by decide) dX12_best_33
  · replace h := ite_f h (fun z => c1 ((lg_cmp_ge _ _).mpr z))
    refine lv_ldc2 hx hb hown (hts _ kX12_best_c72) dX12_best_6 ?_
    cases h
    exact r_lret C hw rfl (by decide) (by decide) dX12_best_9
theorem mX12_best (l : Launch) (D : va_G) (T : Nat → ClassId) (ad : Nat → Nat)  (sz : Nat)   (v1 : Int64) (sg : Sg) (lg : Lg) {ro : Int64} {so : Sg} {lo : Lg} (h : fX12_best v1 sg lg = some (ro, so, lo)) : Met l yX12_best wsX12_best rmX12_best (PreZ ZM D vwCl T (tysM T) ad sg lg false [] [.ref (ad 0), .long v1] sz) (QL ZM D vwCl T (tysM T) (va_A (zwd ZM T ad sg lg) sz) (fun z => ad = z) ro so lo) 0 0 (va_A (zwd ZM T ad sg lg) sz) :=
  metZ [.ref (ad 0), .long v1] sz (by decide) rfl (Nat.le_of_ble_eq_true rfl) (fun p e s m below meth c ls C hw hl => tX12_best_0 C v1 sg lg _ _ _ hw hl h)
end ZM
