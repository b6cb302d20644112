section ZM
variable {p : Program} {l : Launch} {e : Env} {s : State} {m : MethodId} {args : Array Value} {below : List Frame} {meth : Method} {c : Code} {D : va_G} {T : Nat → ClassId} {A : Nat → Prop} {ad a : Nat → Nat}
-- PeckYardModel.findAll()V
def rmX12_findAll : Room := { frames := 4, cells := 0, slots := 0, locals := 94 }
theorem kX12_findAll_f27 : Cond.fieldLink RX12 27 "PeckYardModel" "leads" "[Z" ∈ wsX12_findAll := by decide +kernel
theorem kX12_findAll_iX12 : ∀ w ∈ u_ws RX12 TX12 18, w ∈ wsX12_findAll := by decide +kernel
def fX12_findAll_53 (r2 : (Int32 × Sg × Lg) → Option (Sg × Lg)) (r10 : (Int32 × Int32 × Sg × Lg) → Option (Sg × Lg)) (r20 : (Int32 × Int32 × Int32 × Sg × Lg) → Option (Sg × Lg)) (v1 : Int32) (v2 : Int32) (v3 : Int32) (sg : Sg) (lg : Lg) : Option (Sg × Lg) :=
  lt (v3 + (1 : Int32)) (fun x1 => r20 (v1, v2, x1, sg, lg))
set_option maxHeartbeats 4000000 in
set_option maxRecDepth 100000 in
theorem tX12_findAll_53 (C : Cx p s m args meth c cX12_findAll 4 RX12 wsX12_findAll none D vwCl (tysM T) A false []) {so : Sg} {lo : Lg} {r2 : (Int32 × Sg × Lg) → Option (Sg × Lg)} {r10 : (Int32 × Int32 × Sg × Lg) → Option (Sg × Lg)} {r20 : (Int32 × Int32 × Int32 × Sg × Lg) → Option (Sg × Lg)} (hr2 : ∀ (v1 : Int32) (sg : Sg) (lg : Lg), r2 (v1, sg, lg) = some (so, lo) → ∀ (H : Heap) (locs : List Loc) (ls : Array Slot), WS ZM D vwCl T ad sg lg A s.heap H locs → lv_has ls 4 [(0, .ref (ad 0)), (1, .int v1)] → W p l e rmX12_findAll s m args below meth c H locs 0 0 (MQ below (QV ZM D vwCl T (tysM T) A (fun z => ad = z) so lo) args s 0 0 A) (F0 m 2 ls [])) (hr10 : ∀ (v1 : Int32) (v2 : Int32) (sg : Sg) (lg : Lg), r10 (v1, v2, sg, lg) = some (so, lo) → ∀ (H : Heap) (locs : List Loc) (ls : Array Slot), WS ZM D vwCl T ad sg lg A s.heap H locs → lv_has ls 4 [(0, .ref (ad 0)), (1, .int v1), (2, .int v2)] → W p l e rmX12_findAll s m args below meth c H locs 0 0 (MQ below (QV ZM D vwCl T (tysM T) A (fun z => ad = z) so lo) args s 0 0 A) (F0 m 10 ls [])) (hr20 : ∀ (v1 : Int32) (v2 : Int32) (v3 : Int32) (sg : Sg) (lg : Lg), r20 (v1, v2, v3, sg, lg) = some (so, lo) → ∀ (H : Heap) (locs : List Loc) (ls : Array Slot), WS ZM D vwCl T ad sg lg A s.heap H locs → lv_has ls 4 [(0, .ref (ad 0)), (1, .int v1), (2, .int v2), (3, .int v3)] → W p l e rmX12_findAll s m args below meth c H locs 0 0 (MQ below (QV ZM D vwCl T (tysM T) A (fun z => ad = z) so lo) args s 0 0 A) (F0 m 20 ls [])) : ∀ (v1 : Int32) (v2 : Int32) (v3 : Int32) (sg : Sg) (lg : Lg), ∀ (H : Heap) (locs : List Loc) (ls : Array Slot), WS ZM D vwCl T ad sg lg A s.heap H locs → lv_has ls 4 [(0, .ref (ad 0)), (1, .int v1), (2, .int v2), (3, .int v3)] → fX12_findAll_53 r2 r10 r20 v1 v2 v3 sg lg = some (so, lo) → W p l e rmX12_findAll s m args below meth c H locs 0 0 (MQ below (QV ZM D vwCl T (tysM T) A (fun z => ad = z) so lo) args s 0 0 A) (F0 m 53 ls []) := by
  obtain ⟨⟨hx, hb, hml, hown, hts⟩, hr, hlk, hK, hA, hsp⟩ := id C
  intro v1 v2 v3 sg lg H locs ls hw hl h
  unfold fX12_findAll_53 at h
  obtain ⟨x1, ex1⟩ : ∃ z : Int32, z = (v3 + (1 : Int32)) := ⟨_, rfl⟩
  replace h := lt_get h x1 ex1
  refine lv_iinc (v := x1) (lv' := [(3, .int x1), (0, .ref (ad 0)), (1, .int v1), (2, .int v2)]) hx hb dX12_findAll_53 hl (k := 3) rfl (by rw [ex1]; rfl) (by decide) rfl (fun ls hl => ?_)
  refine lv_goto (tgt := 20) hx hb dX12_findAll_56 (by decide) ?_
  exact hr20 v1 v2 x1 sg lg h _ _ _ hw (lv_sub hl [1, 2, 3, 0] rfl)
def fX12_findAll_20 (r2 : (Int32 × Sg × Lg) → Option (Sg × Lg)) (r10 : (Int32 × Int32 × Sg × Lg) → Option (Sg × Lg)) (r20 : (Int32 × Int32 × Int32 × Sg × Lg) → Option (Sg × Lg)) (v1 : Int32) (v2 : Int32) (v3 : Int32) (sg : Sg) (lg : Lg) : Option (Sg × Lg) :=
  bnd3 (fX12_hens sg lg) (fun y1 sg2 lg3 => (if y1 ≤ v3 then lt (v2 + (1 : Int32)) (fun x6 => r10 (v1, x6, sg2, lg3)) else lt (((12 : Int32) * v2) + v3) (fun x7 => gin x7 144 ((if (sg2 6 x7.toNatClampNeg) = 0 then fX12_findAll_53 r2 r10 r20 v1 v2 v3 sg2 lg3 else bnd3 (fX12_grows v2 v3 sg2 lg3) (fun y10 sg11 lg12 => (if y10 = 0 then fX12_findAll_53 r2 r10 r20 v1 v2 v3 sg11 lg12 else fX12_findAll_53 r2 r10 r20 (1 : Int32) v2 v3 sg11 lg12)))))))
set_option maxHeartbeats 4000000 in
set_option maxRecDepth 100000 in
theorem tX12_findAll_20 (C : Cx p s m args meth c cX12_findAll 4 RX12 wsX12_findAll none D vwCl (tysM T) A false []) {so : Sg} {lo : Lg} {r2 : (Int32 × Sg × Lg) → Option (Sg × Lg)} {r10 : (Int32 × Int32 × Sg × Lg) → Option (Sg × Lg)} {r20 : (Int32 × Int32 × Int32 × Sg × Lg) → Option (Sg × Lg)} (hr2 : ∀ (v1 : Int32) (sg : Sg) (lg : Lg), r2 (v1, sg, lg) = some (so, lo) → ∀ (H : Heap) (locs : List Loc) (ls : Array Slot), WS ZM D vwCl T ad sg lg A s.heap H locs → lv_has ls 4 [(0, .ref (ad 0)), (1, .int v1)] → W p l e rmX12_findAll s m args below meth c H locs 0 0 (MQ below (QV ZM D vwCl T (tysM T) A (fun z => ad = z) so lo) args s 0 0 A) (F0 m 2 ls [])) (hr10 : ∀ (v1 : Int32) (v2 : Int32) (sg : Sg) (lg : Lg), r10 (v1, v2, sg, lg) = some (so, lo) → ∀ (H : Heap) (locs : List Loc) (ls : Array Slot), WS ZM D vwCl T ad sg lg A s.heap H locs → lv_has ls 4 [(0, .ref (ad 0)), (1, .int v1), (2, .int v2)] → W p l e rmX12_findAll s m args below meth c H locs 0 0 (MQ below (QV ZM D vwCl T (tysM T) A (fun z => ad = z) so lo) args s 0 0 A) (F0 m 10 ls [])) (hr20 : ∀ (v1 : Int32) (v2 : Int32) (v3 : Int32) (sg : Sg) (lg : Lg), r20 (v1, v2, v3, sg, lg) = some (so, lo) → ∀ (H : Heap) (locs : List Loc) (ls : Array Slot), WS ZM D vwCl T ad sg lg A s.heap H locs → lv_has ls 4 [(0, .ref (ad 0)), (1, .int v1), (2, .int v2), (3, .int v3)] → W p l e rmX12_findAll s m args below meth c H locs 0 0 (MQ below (QV ZM D vwCl T (tysM T) A (fun z => ad = z) so lo) args s 0 0 A) (F0 m 20 ls [])) : ∀ (v1 : Int32) (v2 : Int32) (v3 : Int32) (sg : Sg) (lg : Lg), ∀ (H : Heap) (locs : List Loc) (ls : Array Slot), WS ZM D vwCl T ad sg lg A s.heap H locs → lv_has ls 4 [(0, .ref (ad 0)), (1, .int v1), (2, .int v2), (3, .int v3)] → fX12_findAll_20 r2 r10 r20 v1 v2 v3 sg lg = some (so, lo) → W p l e rmX12_findAll s m args below meth c H locs 0 0 (MQ below (QV ZM D vwCl T (tysM T) A (fun z => ad = z) so lo) args s 0 0 A) (F0 m 20 ls []) := by
  obtain ⟨⟨hx, hb, hml, hown, hts⟩, hr, hlk, hK, hA, hsp⟩ := id C
  intro v1 v2 v3 sg lg H locs ls hw hl h
  unfold fX12_findAll_20 at h
  refine lv_iload_n hx hb dX12_findAll_20 rfl (lv_at hl 3 rfl) ?_
  refine lv_aload_n hx hb dX12_findAll_21 rfl (lv_at hl 0 rfl) ?_
  obtain ⟨y1, sg2, lg3, hq4, h2⟩ := bnd3_some h
  replace h := h2
  clear h2
  refine r_cVi (As := []) (rest := [.int v3]) C hw 0 (by decide) (ci := 12) rfl rfl (mX12_hens l D T ad  H.size sg lg hq4) (cwV 0 hts gX12_findAll_X12_hens rfl rfl rfl (by decide +kernel) ⟨Nat.le_of_ble_eq_true rfl, Nat.le_of_ble_eq_true rfl⟩) rfl hl.1 rfl (Nat.le_of_ble_eq_true rfl) dX12_findAll_22 ⟨Nat.le_of_ble_eq_true rfl, Nat.le_of_ble_eq_true rfl⟩ (fun ad' H locs hp hw => ?_)
  subst hp
  refine W.widen (k := 0) (n := 0) (by decide) (by decide) ?_
  refine lv_icmp_ge (tgt := 59) hx hb dX12_findAll_25 (by decide) (fun c5 => ?_) (fun c5 => ?_)
  · replace h := ite_t h c5
    obtain ⟨x6, ex6⟩ : ∃ z : Int32, z = (v2 + (1 : Int32)) := ⟨_, rfl⟩
    replace h := lt_get h x6 ex6
    refine lv_iinc (v := x6) (lv' := [(2, .int x6), (0, .ref (ad 0)), (1, .int v1), (3, .int v3)]) hx hb dX12_findAll_59 hl (k := 2) rfl (by rw [ex6]; rfl) (by decide) rfl (fun ls hl => ?_)
    refine lv_goto (tgt := 10) hx hb dX12_findAll_62 (by decide) ?_
    exact hr10 v1 x6 sg2 lg3 h _ _ _ hw (lv_sub hl [1, 2, 0] rfl)
  · replace h := ite_f h c5
    refine lv_aload_n hx hb dX12_findAll_28 rfl (lv_at hl 0 rfl) ?_
    refine r_getR (ci := 12) (C := RX12) (U := TX12) (N := 18) hx hb hts kX12_findAll_iX12 hown hK hw 0 (by decide) rfl rfl 10 (by decide) 6 rfl (hts _ kX12_findAll_f27) (fun _ h9 => h9) dX12_findAll_29 ?_
    refine lv_bipush (v := (12 : Int32)) hx hb dX12_findAll_32 (by decide) ?_
    refine lv_iload_n hx hb dX12_findAll_34 rfl (lv_at hl 2 rfl) ?_
    refine lv_imul hx hb dX12_findAll_35 ?_
    refine lv_iload_n hx hb dX12_findAll_36 rfl (lv_at hl 3 rfl) ?_
    refine lv_iadd hx hb dX12_findAll_37 ?_
    refine lv_topi (fun x7 ex7 => ?_)
    replace h := lt_get h x7 ex7
    have hi8 := (gin_some h).1
    replace h := (gin_some h).2
    refine r_zald hx hb hK hw 6 1 144 (by decide) rfl rfl rfl hi8 dX12_findAll_38 ?_
    refine lv_if_eq (tgt := 53) hx hb dX12_findAll_39 (by decide) (fun c9 => ?_) (fun c9 => ?_)
    · replace h := ite_t h c9
      exact tX12_findAll_53 C hr2 hr10 hr20 v1 v2 v3 sg2 lg3 _ _ _ hw (lv_sub hl [0, 1, 2, 3] rfl) h
    · replace h := ite_f h c9
      refine lv_aload_n hx hb dX12_findAll_42 rfl (lv_at hl 0 rfl) ?_
      refine lv_iload_n hx hb dX12_findAll_43 rfl (lv_at hl 2 rfl) ?_
      refine lv_iload_n hx hb dX12_findAll_44 rfl (lv_at hl 3 rfl) ?_
      obtain ⟨y10, sg11, lg12, hq13, h2⟩ := bnd3_some h
      replace h := h2
      clear h2
      refine r_cVi (As := [.int v2, .int v3]) (rest := []) C hw 0 (by decide) (ci := 12) rfl rfl (mX12_grows l D T ad  H.size v2 v3 sg2 lg3 hq13) (cwV 2 hts gX12_findAll_X12_grows rfl rfl rfl (by decide +kernel) ⟨Nat.le_of_ble_eq_true rfl, Nat.le_of_ble_eq_true rfl⟩) rfl hl.1 rfl (Nat.le_of_ble_eq_true rfl) dX12_findAll_45 ⟨Nat.le_of_ble_eq_true rfl, Nat.le_of_ble_eq_true rfl⟩ (fun ad' H locs hp hw => ?_)
      subst hp
      refine W.widen (k := 0) (n := 0) (by decide) (by decide) ?_
      refine lv_if_eq (tgt := 53) hx hb dX12_findAll_48 (by decide) (fun c14 => ?_) (fun c14 => ?_)
      · replace h := ite_t h c14
        exact tX12_findAll_53 C hr2 hr10 hr20 v1 v2 v3 sg11 lg12 _ _ _ hw (lv_sub hl [0, 1, 2, 3] rfl) h
      · replace h := ite_f h c14
        refine lv_iconst (v := (1 : Int32)) hx hb dX12_findAll_51 (by decide) ?_
        refine lv_istore_n (lv' := [(1, .int (1 : Int32)), (0, .ref (ad 0)), (2, .int v2), (3, .int v3)]) hx hb dX12_findAll_52 rfl hl (by decide) rfl (fun ls hl => ?_)
        exact tX12_findAll_53 C hr2 hr10 hr20 (1 : Int32) v2 v3 sg11 lg12 _ _ _ hw (lv_sub hl [1, 0, 2, 3] rfl) h
def LX12_findAll_20 (r2 : (Int32 × Sg × Lg) → Option (Sg × Lg)) (r10 : (Int32 × Int32 × Sg × Lg) → Option (Sg × Lg)) : (Int32 × Int32 × Int32 × Sg × Lg) → Option (Sg × Lg) := loop (fun rec z => fX12_findAll_20 r2 r10 rec z.1 z.2.1 z.2.2.1 z.2.2.2.1 z.2.2.2.2)
theorem TX12_findAll_20 (C : Cx p s m args meth c cX12_findAll 4 RX12 wsX12_findAll none D vwCl (tysM T) A false []) {so : Sg} {lo : Lg} {r2 : (Int32 × Sg × Lg) → Option (Sg × Lg)} {r10 : (Int32 × Int32 × Sg × Lg) → Option (Sg × Lg)} (hr2 : ∀ (v1 : Int32) (sg : Sg) (lg : Lg), r2 (v1, sg, lg) = some (so, lo) → ∀ (H : Heap) (locs : List Loc) (ls : Array Slot), WS ZM D vwCl T ad sg lg A s.heap H locs → lv_has ls 4 [(0, .ref (ad 0)), (1, .int v1)] → W p l e rmX12_findAll s m args below meth c H locs 0 0 (MQ below (QV ZM D vwCl T (tysM T) A (fun z => ad = z) so lo) args s 0 0 A) (F0 m 2 ls [])) (hr10 : ∀ (v1 : Int32) (v2 : Int32) (sg : Sg) (lg : Lg), r10 (v1, v2, sg, lg) = some (so, lo) → ∀ (H : Heap) (locs : List Loc) (ls : Array Slot), WS ZM D vwCl T ad sg lg A s.heap H locs → lv_has ls 4 [(0, .ref (ad 0)), (1, .int v1), (2, .int v2)] → W p l e rmX12_findAll s m args below meth c H locs 0 0 (MQ below (QV ZM D vwCl T (tysM T) A (fun z => ad = z) so lo) args s 0 0 A) (F0 m 10 ls [])) : ∀ (v1 : Int32) (v2 : Int32) (v3 : Int32) (sg : Sg) (lg : Lg), LX12_findAll_20 r2 r10 (v1, v2, v3, sg, lg) = some (so, lo) → ∀ (H : Heap) (locs : List Loc) (ls : Array Slot), WS ZM D vwCl T ad sg lg A s.heap H locs → lv_has ls 4 [(0, .ref (ad 0)), (1, .int v1), (2, .int v2), (3, .int v3)] → W p l e rmX12_findAll s m args below meth c H locs 0 0 (MQ below (QV ZM D vwCl T (tysM T) A (fun z => ad = z) so lo) args s 0 0 A) (F0 m 20 ls []) := by
  have key : ∀ z : (Int32 × Int32 × Int32 × Sg × Lg), LX12_findAll_20 r2 r10 z = some (so, lo) → ∀ (H : Heap) (locs : List Loc) (ls : Array Slot), WS ZM D vwCl T ad z.2.2.2.1 z.2.2.2.2 A s.heap H locs → lv_has ls 4 [(0, .ref (ad 0)), (1, .int z.1), (2, .int z.2.1), (3, .int z.2.2.1)] → W p l e rmX12_findAll s m args below meth c H locs 0 0 (MQ below (QV ZM D vwCl T (tysM T) A (fun z => ad = z) so lo) args s 0 0 A) (F0 m 20 ls []) := by
    intro z h
    unfold LX12_findAll_20 at h
    exact loop_ind (fun rec z => fX12_findAll_20 r2 r10 rec z.1 z.2.1 z.2.2.1 z.2.2.2.1 z.2.2.2.2) (y := (so, lo)) (P := fun z => ∀ (H : Heap) (locs : List Loc) (ls : Array Slot), WS ZM D vwCl T ad z.2.2.2.1 z.2.2.2.2 A s.heap H locs → lv_has ls 4 [(0, .ref (ad 0)), (1, .int z.1), (2, .int z.2.1), (3, .int z.2.2.1)] → W p l e rmX12_findAll s m args below meth c H locs 0 0 (MQ below (QV ZM D vwCl T (tysM T) A (fun z => ad = z) so lo) args s 0 0 A) (F0 m 20 ls [])) (fun rec hrec z h H locs ls hw hl => tX12_findAll_20 C hr2 hr10 (fun v1 v2 v3 sg lg => hrec (v1, v2, v3, sg, lg)) z.1 z.2.1 z.2.2.1 z.2.2.2.1 z.2.2.2.2 H locs ls hw hl h) z h
  exact fun v1 v2 v3 sg lg => key (v1, v2, v3, sg, lg)
def fX12_findAll_10 (r2 : (Int32 × Sg × Lg) → Option (Sg × Lg)) (r10 : (Int32 × Int32 × Sg × Lg) → Option (Sg × Lg)) (v1 : Int32) (v2 : Int32) (sg : Sg) (lg : Lg) : Option (Sg × Lg) :=
  bnd3 (fX12_hens sg lg) (fun y1 sg2 lg3 => (if y1 ≤ v2 then r2 (v1, sg2, lg3) else LX12_findAll_20 r2 r10 (v1, v2, (0 : Int32), sg2, lg3)))
set_option maxHeartbeats 4000000 in
set_option maxRecDepth 100000 in
theorem tX12_findAll_10 (C : Cx p s m args meth c cX12_findAll 4 RX12 wsX12_findAll none D vwCl (tysM T) A false []) {so : Sg} {lo : Lg} {r2 : (Int32 × Sg × Lg) → Option (Sg × Lg)} {r10 : (Int32 × Int32 × Sg × Lg) → Option (Sg × Lg)} (hr2 : ∀ (v1 : Int32) (sg : Sg) (lg : Lg), r2 (v1, sg, lg) = some (so, lo) → ∀ (H : Heap) (locs : List Loc) (ls : Array Slot), WS ZM D vwCl T ad sg lg A s.heap H locs → lv_has ls 4 [(0, .ref (ad 0)), (1, .int v1)] → W p l e rmX12_findAll s m args below meth c H locs 0 0 (MQ below (QV ZM D vwCl T (tysM T) A (fun z => ad = z) so lo) args s 0 0 A) (F0 m 2 ls [])) (hr10 : ∀ (v1 : Int32) (v2 : Int32) (sg : Sg) (lg : Lg), r10 (v1, v2, sg, lg) = some (so, lo) → ∀ (H : Heap) (locs : List Loc) (ls : Array Slot), WS ZM D vwCl T ad sg lg A s.heap H locs → lv_has ls 4 [(0, .ref (ad 0)), (1, .int v1), (2, .int v2)] → W p l e rmX12_findAll s m args below meth c H locs 0 0 (MQ below (QV ZM D vwCl T (tysM T) A (fun z => ad = z) so lo) args s 0 0 A) (F0 m 10 ls [])) : ∀ (v1 : Int32) (v2 : Int32) (sg : Sg) (lg : Lg), ∀ (H : Heap) (locs : List Loc) (ls : Array Slot), WS ZM D vwCl T ad sg lg A s.heap H locs → lv_has ls 4 [(0, .ref (ad 0)), (1, .int v1), (2, .int v2)] → fX12_findAll_10 r2 r10 v1 v2 sg lg = some (so, lo) → W p l e rmX12_findAll s m args below meth c H locs 0 0 (MQ below (QV ZM D vwCl T (tysM T) A (fun z => ad = z) so lo) args s 0 0 A) (F0 m 10 ls []) := by
  obtain ⟨⟨hx, hb, hml, hown, hts⟩, hr, hlk, hK, hA, hsp⟩ := id C
  intro v1 v2 sg lg H locs ls hw hl h
  unfold fX12_findAll_10 at h
  refine lv_iload_n hx hb dX12_findAll_10 rfl (lv_at hl 2 rfl) ?_
  refine lv_aload_n hx hb dX12_findAll_11 rfl (lv_at hl 0 rfl) ?_
  obtain ⟨y1, sg2, lg3, hq4, h2⟩ := bnd3_some h
  replace h := h2
  clear h2
  refine r_cVi (As := []) (rest := [.int v2]) C hw 0 (by decide) (ci := 12) rfl rfl (mX12_hens l D T ad  H.size sg lg hq4) (cwV 0 hts gX12_findAll_X12_hens rfl rfl rfl (by decide +kernel) ⟨Nat.le_of_ble_eq_true rfl, Nat.le_of_ble_eq_true rfl⟩) rfl hl.1 rfl (Nat.le_of_ble_eq_true rfl) dX12_findAll_12 ⟨Nat.le_of_ble_eq_true rfl, Nat.le_of_ble_eq_true rfl⟩ (fun ad' H locs hp hw => ?_)
  subst hp
  refine W.widen (k := 0) (n := 0) (by decide) (by decide) ?_
  refine lv_icmp_ge (tgt := 65) hx hb dX12_findAll_15 (by decide) (fun c5 => ?_) (fun c5 => ?_)
  · replace h := ite_t h c5
    refine lv_goto (tgt := 2) hx hb dX12_findAll_65 (by decide) ?_
    exact hr2 v1 sg2 lg3 h _ _ _ hw (lv_sub hl [0, 1] rfl)
  · replace h := ite_f h c5
    refine lv_iconst (v := (0 : Int32)) hx hb dX12_findAll_18 (by decide) ?_
    refine lv_istore_n (lv' := [(3, .int (0 : Int32)), (0, .ref (ad 0)), (1, .int v1), (2, .int v2)]) hx hb dX12_findAll_19 rfl hl (by decide) rfl (fun ls hl => ?_)
    exact TX12_findAll_20 C hr2 hr10 v1 v2 (0 : Int32) sg2 lg3 h _ _ _ hw (lv_sub hl [1, 2, 3, 0] rfl)
def LX12_findAll_10 (r2 : (Int32 × Sg × Lg) → Option (Sg × Lg)) : (Int32 × Int32 × Sg × Lg) → Option (Sg × Lg) := loop (fun rec z => fX12_findAll_10 r2 rec z.1 z.2.1 z.2.2.1 z.2.2.2)
theorem TX12_findAll_10 (C : Cx p s m args meth c cX12_findAll 4 RX12 wsX12_findAll none D vwCl (tysM T) A false []) {so : Sg} {lo : Lg} {r2 : (Int32 × Sg × Lg) → Option (Sg × Lg)} (hr2 : ∀ (v1 : Int32) (sg : Sg) (lg : Lg), r2 (v1, sg, lg) = some (so, lo) → ∀ (H : Heap) (locs : List Loc) (ls : Array Slot), WS ZM D vwCl T ad sg lg A s.heap H locs → lv_has ls 4 [(0, .ref (ad 0)), (1, .int v1)] → W p l e rmX12_findAll s m args below meth c H locs 0 0 (MQ below (QV ZM D vwCl T (tysM T) A (fun z => ad = z) so lo) args s 0 0 A) (F0 m 2 ls [])) : ∀ (v1 : Int32) (v2 : Int32) (sg : Sg) (lg : Lg), LX12_findAll_10 r2 (v1, v2, sg, lg) = some (so, lo) → ∀ (H : Heap) (locs : List Loc) (ls : Array Slot), WS ZM D vwCl T ad sg lg A s.heap H locs → lv_has ls 4 [(0, .ref (ad 0)), (1, .int v1), (2, .int v2)] → W p l e rmX12_findAll s m args below meth c H locs 0 0 (MQ below (QV ZM D vwCl T (tysM T) A (fun z => ad = z) so lo) args s 0 0 A) (F0 m 10 ls []) := by
  have key : ∀ z : (Int32 × Int32 × Sg × Lg), LX12_findAll_10 r2 z = some (so, lo) → ∀ (H : Heap) (locs : List Loc) (ls : Array Slot), WS ZM D vwCl T ad z.2.2.1 z.2.2.2 A s.heap H locs → lv_has ls 4 [(0, .ref (ad 0)), (1, .int z.1), (2, .int z.2.1)] → W p l e rmX12_findAll s m args below meth c H locs 0 0 (MQ below (QV ZM D vwCl T (tysM T) A (fun z => ad = z) so lo) args s 0 0 A) (F0 m 10 ls []) := by
    intro z h
    unfold LX12_findAll_10 at h
    exact loop_ind (fun rec z => fX12_findAll_10 r2 rec z.1 z.2.1 z.2.2.1 z.2.2.2) (y := (so, lo)) (P := fun z => ∀ (H : Heap) (locs : List Loc) (ls : Array Slot), WS ZM D vwCl T ad z.2.2.1 z.2.2.2 A s.heap H locs → lv_has ls 4 [(0, .ref (ad 0)), (1, .int z.1), (2, .int z.2.1)] → W p l e rmX12_findAll s m args below meth c H locs 0 0 (MQ below (QV ZM D vwCl T (tysM T) A (fun z => ad = z) so lo) args s 0 0 A) (F0 m 10 ls [])) (fun rec hrec z h H locs ls hw hl => tX12_findAll_10 C hr2 (fun v1 v2 sg lg => hrec (v1, v2, sg, lg)) z.1 z.2.1 z.2.2.1 z.2.2.2 H locs ls hw hl h) z h
  exact fun v1 v2 sg lg => key (v1, v2, sg, lg)
def fX12_findAll_2 (r2 : (Int32 × Sg × Lg) → Option (Sg × Lg)) (v1 : Int32) (sg : Sg) (lg : Lg) : Option (Sg × Lg) :=
  (if v1 = 0 then some (sg, lg) else LX12_findAll_10 r2 ((0 : Int32), (0 : Int32), sg, lg))
set_option maxHeartbeats 4000000 in
set_option maxRecDepth 100000 in
theorem tX12_findAll_2 (C : Cx p s m args meth c cX12_findAll 4 RX12 wsX12_findAll none D vwCl (tysM T) A false []) {so : Sg} {lo : Lg} {r2 : (Int32 × Sg × Lg) → Option (Sg × Lg)} (hr2 : ∀ (v1 : Int32) (sg : Sg) (lg : Lg), r2 (v1, sg, lg) = some (so, lo) → ∀ (H : Heap) (locs : List Loc) (ls : Array Slot), WS ZM D vwCl T ad sg lg A s.heap H locs → lv_has ls 4 [(0, .ref (ad 0)), (1, .int v1)] → W p l e rmX12_findAll s m args below meth c H locs 0 0 (MQ below (QV ZM D vwCl T (tysM T) A (fun z => ad = z) so lo) args s 0 0 A) (F0 m 2 ls [])) : ∀ (v1 : Int32) (sg : Sg) (lg : Lg), ∀ (H : Heap) (locs : List Loc) (ls : Array Slot), WS ZM D vwCl T ad sg lg A s.heap H locs → lv_has ls 4 [(0, .ref (ad 0)), (1, .int v1)] → fX12_findAll_2 r2 v1 sg lg = some (so, lo) → W p l e rmX12_findAll s m args below meth c H locs 0 0 (MQ below (QV ZM D vwCl T (tysM T) A (fun z => ad = z) so lo) args s 0 0 A) (F0 m 2 ls []) := by
  obtain ⟨⟨hx, hb, hml, hown, hts⟩, hr, hlk, hK, hA, hsp⟩ := id C
  intro v1 sg lg H locs ls hw hl h
  unfold fX12_findAll_2 at h
  refine lv_iload_n hx hb dX12_findAll_2 rfl (lv_at hl 1 rfl) ?_
  refine lv_if_eq (tgt := 68) hx hb dX12_findAll_3 (by decide) (fun c1 => ?_) (fun c1 => ?_)
  · replace h := ite_t h c1
    cases h
    exact r_vret C hw rfl (by decide) (by decide) dX12_findAll_68
  · replace h := ite_f h c1
    refine lv_iconst (v := (0 : Int32)) hx hb dX12_findAll_6 (by decide) ?_
    refine lv_istore_n (lv' := [(1, .int (0 : Int32)), (0, .ref (ad 0))]) hx hb dX12_findAll_7 rfl hl (by decide) rfl (fun ls hl => ?_)
    refine lv_iconst (v := (0 : Int32)) hx hb dX12_findAll_8 (by decide) ?_
    refine lv_istore_n (lv' := [(2, .int (0 : Int32)), (1, .int (0 : Int32)), (0, .ref (ad 0))]) hx hb dX12_findAll_9 rfl hl (by decide) rfl (fun ls hl => ?_)
    exact TX12_findAll_10 C hr2 (0 : Int32) (0 : Int32) sg lg h _ _ _ hw (lv_sub hl [2, 1, 0] rfl)
def LX12_findAll_2  : (Int32 × Sg × Lg) → Option (Sg × Lg) := loop (fun rec z => fX12_findAll_2 rec z.1 z.2.1 z.2.2)
theorem TX12_findAll_2 (C : Cx p s m args meth c cX12_findAll 4 RX12 wsX12_findAll none D vwCl (tysM T) A false []) {so : Sg} {lo : Lg}   : ∀ (v1 : Int32) (sg : Sg) (lg : Lg), LX12_findAll_2 (v1, sg, lg) = some (so, lo) → ∀ (H : Heap) (locs : List Loc) (ls : Array Slot), WS ZM D vwCl T ad sg lg A s.heap H locs → lv_has ls 4 [(0, .ref (ad 0)), (1, .int v1)] → W p l e rmX12_findAll s m args below meth c H locs 0 0 (MQ below (QV ZM D vwCl T (tysM T) A (fun z => ad = z) so lo) args s 0 0 A) (F0 m 2 ls []) := by
  have key : ∀ z : (Int32 × Sg × Lg), LX12_findAll_2  z = some (so, lo) → ∀ (H : Heap) (locs : List Loc) (ls : Array Slot), WS ZM D vwCl T ad z.2.1 z.2.2 A s.heap H locs → lv_has ls 4 [(0, .ref (ad 0)), (1, .int z.1)] → W p l e rmX12_findAll s m args below meth c H locs 0 0 (MQ below (QV ZM D vwCl T (tysM T) A (fun z => ad = z) so lo) args s 0 0 A) (F0 m 2 ls []) := by
    intro z h
    unfold LX12_findAll_2 at h
    exact loop_ind (fun rec z => fX12_findAll_2 rec z.1 z.2.1 z.2.2) (y := (so, lo)) (P := fun z => ∀ (H : Heap) (locs : List Loc) (ls : Array Slot), WS ZM D vwCl T ad z.2.1 z.2.2 A s.heap H locs → lv_has ls 4 [(0, .ref (ad 0)), (1, .int z.1)] → W p l e rmX12_findAll s m args below meth c H locs 0 0 (MQ below (QV ZM D vwCl T (tysM T) A (fun z => ad = z) so lo) args s 0 0 A) (F0 m 2 ls [])) (fun rec hrec z h H locs ls hw hl => tX12_findAll_2 C  (fun v1 sg lg => hrec (v1, sg, lg)) z.1 z.2.1 z.2.2 H locs ls hw hl h) z h
  exact fun v1 sg lg => key (v1, sg, lg)
def fX12_findAll  (sg : Sg) (lg : Lg) : Option (Sg × Lg) :=
  LX12_findAll_2 ((1 : Int32), sg, lg)
set_option maxHeartbeats 4000000 in
set_option maxRecDepth 100000 in
theorem tX12_findAll_0 (C : Cx p s m args meth c cX12_findAll 4 RX12 wsX12_findAll none D vwCl (tysM T) A false []) {so : Sg} {lo : Lg}   : ∀ (sg : Sg) (lg : Lg), ∀ (H : Heap) (locs : List Loc) (ls : Array Slot), WS ZM D vwCl T ad sg lg A s.heap H locs → lv_has ls 4 [(0, .ref (ad 0))] → fX12_findAll sg lg = some (so, lo) → W p l e rmX12_findAll s m args below meth c H locs 0 0 (MQ below (QV ZM D vwCl T (tysM T) A (fun z => ad = z) so lo) args s 0 0 A) (F0 m 0 ls []) := by
  obtain ⟨⟨hx, hb, hml, hown, hts⟩, hr, hlk, hK, hA, hsp⟩ := id C
  intro sg lg H locs ls hw hl h
  unfold fX12_findAll at h
  refine lv_iconst (v := (1 : Int32)) hx hb dX12_findAll_0 (by decide) ?_
  refine lv_istore_n (lv' := [(1, .int (1 : Int32)), (0, .ref (ad 0))]) hx hb dX12_findAll_1 rfl hl (by decide) rfl (fun ls hl => ?_)
  exact TX12_findAll_2 C (1 : Int32) sg lg h _ _ _ hw (lv_sub hl [1, 0] rfl)
theorem mX12_findAll (l : Launch) (D : va_G) (T : Nat → ClassId) (ad : Nat → Nat)  (sz : Nat)   (sg : Sg) (lg : Lg) {so : Sg} {lo : Lg} (h : fX12_findAll sg lg = some (so, lo)) : Met l yX12_findAll wsX12_findAll rmX12_findAll (PreZ ZM D vwCl T (tysM T) ad sg lg false [] [.ref (ad 0)] sz) (QV ZM D vwCl T (tysM T) (va_A (zwd ZM T ad sg lg) sz) (fun z => ad = z) so lo) 0 0 (va_A (zwd ZM T ad sg lg) sz) :=
  metZ [.ref (ad 0)] sz (by decide) rfl (Nat.le_of_ble_eq_true rfl) (fun p e s m below meth c ls C hw hl => tX12_findAll_0 C sg lg _ _ _ hw hl h)
-- PeckYardModel.why()J
def rmX12_why : Room := { frames := 5, cells := 0, slots := 0, locals := 117 }
theorem kX12_why_c112 : Cond.constantLong RX12 112 (-2000000005) ∈ wsX12_why := by decide +kernel
theorem kX12_why_f27 : Cond.fieldLink RX12 27 "PeckYardModel" "leads" "[Z" ∈ wsX12_why := by decide +kernel
theorem kX12_why_iX12 : ∀ w ∈ u_ws RX12 TX12 18, w ∈ wsX12_why := by decide +kernel
theorem kX12_why_c168 : Cond.constantLong RX12 168 (100) ∈ wsX12_why := by decide +kernel
def fX12_why_86 (r86 : (Int32 × Sg × Lg) → Option (Int64 × Sg × Lg)) (v1 : Int32) (sg : Sg) (lg : Lg) : Option (Int64 × Sg × Lg) :=
  bnd3 (fX12_hens sg lg) (fun y1 sg2 lg3 => (if y1 ≤ v1 then some ((-2000000005 : Int64), sg2, lg3) else lt (((12 : Int32) * v1) + v1) (fun x6 => gin x6 144 ((if (sg2 6 x6.toNatClampNeg) = 0 then lt (v1 + (1 : Int32)) (fun x9 => r86 (x9, sg2, lg3)) else some (v1.toInt64, sg2, lg3))))))
set_option maxHeartbeats 4000000 in
set_option maxRecDepth 100000 in
theorem tX12_why_86 (C : Cx p s m args meth c cX12_why 4 RX12 wsX12_why (some .long) D vwCl (tysM T) A false []) {ro : Int64} {so : Sg} {lo : Lg} {r86 : (Int32 × Sg × Lg) → Option (Int64 × Sg × Lg)} (hr86 : ∀ (v1 : Int32) (sg : Sg) (lg : Lg), r86 (v1, sg, lg) = some (ro, so, lo) → ∀ (H : Heap) (locs : List Loc) (ls : Array Slot), WS ZM D vwCl T ad sg lg A s.heap H locs → lv_has ls 4 [(0, .ref (ad 0)), (1, .int v1)] → W p l e rmX12_why s m args below meth c H locs 0 0 (MQ below (QL ZM D vwCl T (tysM T) A (fun z => ad = z) ro so lo) args s 0 0 A) (F0 m 86 ls [])) : ∀ (v1 : Int32) (sg : Sg) (lg : Lg), ∀ (H : Heap) (locs : List Loc) (ls : Array Slot), WS ZM D vwCl T ad sg lg A s.heap H locs → lv_has ls 4 [(0, .ref (ad 0)), (1, .int v1)] → fX12_why_86 r86 v1 sg lg = some (ro, so, lo) → W p l e rmX12_why s m args below meth c H locs 0 0 (MQ below (QL ZM D vwCl T (tysM T) A (fun z => ad = z) ro so lo) args s 0 0 A) (F0 m 86 ls []) := by
  obtain ⟨⟨hx, hb, hml, hown, hts⟩, hr, hlk, hK, hA, hsp⟩ := id C
  intro v1 sg lg H locs ls hw hl h
  unfold fX12_why_86 at h
  refine lv_iload_n hx hb dX12_why_86 rfl (lv_at hl 1 rfl) ?_
  refine lv_aload_n hx hb dX12_why_87 rfl (lv_at hl 0 rfl) ?_
  obtain ⟨y1, sg2, lg3, hq4, h2⟩ := bnd3_some h
  replace h := h2
  clear h2
  refine r_cVi (As := []) (rest := [.int v1]) C hw 0 (by decide) (ci := 12) rfl rfl (mX12_hens l D T ad  H.size sg lg hq4) (cwV 0 hts gX12_why_X12_hens rfl rfl rfl (by decide +kernel) ⟨Nat.le_of_ble_eq_true rfl, Nat.le_of_ble_eq_true rfl⟩) rfl hl.1 rfl (Nat.le_of_ble_eq_true rfl) dX12_why_88 ⟨Nat.le_of_ble_eq_true rfl, Nat.le_of_ble_eq_true rfl⟩ (fun ad' H locs hp hw => ?_)
  subst hp
  refine W.widen (k := 0) (n := 0) (by decide) (by decide) ?_
  refine lv_icmp_ge (tgt := 117) hx hb dX12_why_91 (by decide) (fun c5 => ?_) (fun c5 => ?_)
  · replace h := ite_t h c5
    refine lv_ldc2 hx hb hown (hts _ kX12_why_c112) dX12_why_117 ?_
    cases h
    exact r_lret C hw rfl (by decide) (by decide) dX12_why_120
  · replace h := ite_f h c5
    refine lv_aload_n hx hb dX12_why_94 rfl (lv_at hl 0 rfl) ?_
    refine r_getR (ci := 12) (C := RX12) (U := TX12) (N := 18) hx hb hts kX12_why_iX12 hown hK hw 0 (by decide) rfl rfl 10 (by decide) 6 rfl (hts _ kX12_why_f27) (fun _ h9 => h9) dX12_why_95 ?_
    refine lv_bipush (v := (12 : Int32)) hx hb dX12_why_98 (by decide) ?_
    refine lv_iload_n hx hb dX12_why_100 rfl (lv_at hl 1 rfl) ?_
    refine lv_imul hx hb dX12_why_101 ?_
    refine lv_iload_n hx hb dX12_why_102 rfl (lv_at hl 1 rfl) ?_
    refine lv_iadd hx hb dX12_why_103 ?_
    refine lv_topi (fun x6 ex6 => ?_)
    replace h := lt_get h x6 ex6
    have hi7 := (gin_some h).1
    replace h := (gin_some h).2
    refine r_zald hx hb hK hw 6 1 144 (by decide) rfl rfl rfl hi7 dX12_why_104 ?_
    refine lv_if_eq (tgt := 111) hx hb dX12_why_105 (by decide) (fun c8 => ?_) (fun c8 => ?_)
    · replace h := ite_t h c8
      obtain ⟨x9, ex9⟩ : ∃ z : Int32, z = (v1 + (1 : Int32)) := ⟨_, rfl⟩
      replace h := lt_get h x9 ex9
      refine lv_iinc (v := x9) (lv' := [(1, .int x9), (0, .ref (ad 0))]) hx hb dX12_why_111 hl (k := 1) rfl (by rw [ex9]; rfl) (by decide) rfl (fun ls hl => ?_)
      refine lv_goto (tgt := 86) hx hb dX12_why_114 (by decide) ?_
      exact hr86 x9 sg2 lg3 h _ _ _ hw (lv_sub hl [1, 0] rfl)
    · replace h := ite_f h c8
      refine lv_iload_n hx hb dX12_why_108 rfl (lv_at hl 1 rfl) ?_
      refine lv_i2l (v := v1.toInt64) hx hb dX12_why_109 rfl ?_
      cases h
      exact r_lret C hw rfl (by decide) (by decide) dX12_why_110
def LX12_why_86  : (Int32 × Sg × Lg) → Option (Int64 × Sg × Lg) := loop (fun rec z => fX12_why_86 rec z.1 z.2.1 z.2.2)
theorem TX12_why_86 (C : Cx p s m args meth c cX12_why 4 RX12 wsX12_why (some .long) D vwCl (tysM T) A false []) {ro : Int64} {so : Sg} {lo : Lg}   : ∀ (v1 : Int32) (sg : Sg) (lg : Lg), LX12_why_86 (v1, sg, lg) = some (ro, so, lo) → ∀ (H : Heap) (locs : List Loc) (ls : Array Slot), WS ZM D vwCl T ad sg lg A s.heap H locs → lv_has ls 4 [(0, .ref (ad 0)), (1, .int v1)] → W p l e rmX12_why s m args below meth c H locs 0 0 (MQ below (QL ZM D vwCl T (tysM T) A (fun z => ad = z) ro so lo) args s 0 0 A) (F0 m 86 ls []) := by
  have key : ∀ z : (Int32 × Sg × Lg), LX12_why_86  z = some (ro, so, lo) → ∀ (H : Heap) (locs : List Loc) (ls : Array Slot), WS ZM D vwCl T ad z.2.1 z.2.2 A s.heap H locs → lv_has ls 4 [(0, .ref (ad 0)), (1, .int z.1)] → W p l e rmX12_why s m args below meth c H locs 0 0 (MQ below (QL ZM D vwCl T (tysM T) A (fun z => ad = z) ro so lo) args s 0 0 A) (F0 m 86 ls []) := by
    intro z h
    unfold LX12_why_86 at h
    exact loop_ind (fun rec z => fX12_why_86 rec z.1 z.2.1 z.2.2) (y := (ro, so, lo)) (P := fun z => ∀ (H : Heap) (locs : List Loc) (ls : Array Slot), WS ZM D vwCl T ad z.2.1 z.2.2 A s.heap H locs → lv_has ls 4 [(0, .ref (ad 0)), (1, .int z.1)] → W p l e rmX12_why s m args below meth c H locs 0 0 (MQ below (QL ZM D vwCl T (tysM T) A (fun z => ad = z) ro so lo) args s 0 0 A) (F0 m 86 ls [])) (fun rec hrec z h H locs ls hw hl => tX12_why_86 C  (fun v1 sg lg => hrec (v1, sg, lg)) z.1 z.2.1 z.2.2 H locs ls hw hl h) z h
  exact fun v1 sg lg => key (v1, sg, lg)
def fX12_why_46 (r2 : (Int32 × Sg × Lg) → Option (Int64 × Sg × Lg)) (r14 : (Int32 × Int32 × Int32 × Sg × Lg) → Option (Int64 × Sg × Lg)) (v1 : Int32) (v3 : Int32) (w0 : Int32) (w1 : Int32) (sg : Sg) (lg : Lg) : Option (Int64 × Sg × Lg) :=
  lt (w1 + w0) (fun x1 => lt (v3 + (1 : Int32)) (fun x2 => r14 (v1, x1, x2, sg, lg)))
set_option maxHeartbeats 4000000 in
set_option maxRecDepth 100000 in
theorem tX12_why_46 (C : Cx p s m args meth c cX12_why 4 RX12 wsX12_why (some .long) D vwCl (tysM T) A false []) {ro : Int64} {so : Sg} {lo : Lg} {r2 : (Int32 × Sg × Lg) → Option (Int64 × Sg × Lg)} {r14 : (Int32 × Int32 × Int32 × Sg × Lg) → Option (Int64 × Sg × Lg)} (hr2 : ∀ (v1 : Int32) (sg : Sg) (lg : Lg), r2 (v1, sg, lg) = some (ro, so, lo) → ∀ (H : Heap) (locs : List Loc) (ls : Array Slot), WS ZM D vwCl T ad sg lg A s.heap H locs → lv_has ls 4 [(0, .ref (ad 0)), (1, .int v1)] → W p l e rmX12_why s m args below meth c H locs 0 0 (MQ below (QL ZM D vwCl T (tysM T) A (fun z => ad = z) ro so lo) args s 0 0 A) (F0 m 2 ls [])) (hr14 : ∀ (v1 : Int32) (v2 : Int32) (v3 : Int32) (sg : Sg) (lg : Lg), r14 (v1, v2, v3, sg, lg) = some (ro, so, lo) → ∀ (H : Heap) (locs : List Loc) (ls : Array Slot), WS ZM D vwCl T ad sg lg A s.heap H locs → lv_has ls 4 [(0, .ref (ad 0)), (1, .int v1), (2, .int v2), (3, .int v3)] → W p l e rmX12_why s m args below meth c H locs 0 0 (MQ below (QL ZM D vwCl T (tysM T) A (fun z => ad = z) ro so lo) args s 0 0 A) (F0 m 14 ls [])) : ∀ (v1 : Int32) (v3 : Int32) (w0 : Int32) (w1 : Int32) (sg : Sg) (lg : Lg), ∀ (H : Heap) (locs : List Loc) (ls : Array Slot), WS ZM D vwCl T ad sg lg A s.heap H locs → lv_has ls 4 [(0, .ref (ad 0)), (1, .int v1), (3, .int v3)] → fX12_why_46 r2 r14 v1 v3 w0 w1 sg lg = some (ro, so, lo) → W p l e rmX12_why s m args below meth c H locs 0 0 (MQ below (QL ZM D vwCl T (tysM T) A (fun z => ad = z) ro so lo) args s 0 0 A) (F0 m 46 ls [.int w0, .int w1]) := by
  obtain ⟨⟨hx, hb, hml, hown, hts⟩, hr, hlk, hK, hA, hsp⟩ := id C
  intro v1 v3 w0 w1 sg lg H locs ls hw hl h
  unfold fX12_why_46 at h
  refine lv_iadd hx hb dX12_why_46 ?_
  refine lv_topi (fun x1 ex1 => ?_)
  replace h := lt_get h x1 ex1
  refine lv_istore_n (lv' := [(2, .int x1), (0, .ref (ad 0)), (1, .int v1), (3, .int v3)]) hx hb dX12_why_47 rfl hl (by decide) rfl (fun ls hl => ?_)
  obtain ⟨x2, ex2⟩ : ∃ z : Int32, z = (v3 + (1 : Int32)) := ⟨_, rfl⟩
  replace h := lt_get h x2 ex2
  refine lv_iinc (v := x2) (lv' := [(3, .int x2), (2, .int x1), (0, .ref (ad 0)), (1, .int v1)]) hx hb dX12_why_48 hl (k := 3) rfl (by rw [ex2]; rfl) (by decide) rfl (fun ls hl => ?_)
  refine lv_goto (tgt := 14) hx hb dX12_why_51 (by decide) ?_
  exact hr14 v1 x1 x2 sg lg h _ _ _ hw (lv_sub hl [2, 3, 1, 0] rfl)
def fX12_why_45 (r2 : (Int32 × Sg × Lg) → Option (Int64 × Sg × Lg)) (r14 : (Int32 × Int32 × Int32 × Sg × Lg) → Option (Int64 × Sg × Lg)) (v1 : Int32) (v3 : Int32) (w0 : Int32) (sg : Sg) (lg : Lg) : Option (Int64 × Sg × Lg) :=
  fX12_why_46 r2 r14 v1 v3 (0 : Int32) w0 sg lg
set_option maxHeartbeats 4000000 in
set_option maxRecDepth 100000 in
theorem tX12_why_45 (C : Cx p s m args meth c cX12_why 4 RX12 wsX12_why (some .long) D vwCl (tysM T) A false []) {ro : Int64} {so : Sg} {lo : Lg} {r2 : (Int32 × Sg × Lg) → Option (Int64 × Sg × Lg)} {r14 : (Int32 × Int32 × Int32 × Sg × Lg) → Option (Int64 × Sg × Lg)} (hr2 : ∀ (v1 : Int32) (sg : Sg) (lg : Lg), r2 (v1, sg, lg) = some (ro, so, lo) → ∀ (H : Heap) (locs : List Loc) (ls : Array Slot), WS ZM D vwCl T ad sg lg A s.heap H locs → lv_has ls 4 [(0, .ref (ad 0)), (1, .int v1)] → W p l e rmX12_why s m args below meth c H locs 0 0 (MQ below (QL ZM D vwCl T (tysM T) A (fun z => ad = z) ro so lo) args s 0 0 A) (F0 m 2 ls [])) (hr14 : ∀ (v1 : Int32) (v2 : Int32) (v3 : Int32) (sg : Sg) (lg : Lg), r14 (v1, v2, v3, sg, lg) = some (ro, so, lo) → ∀ (H : Heap) (locs : List Loc) (ls : Array Slot), WS ZM D vwCl T ad sg lg A s.heap H locs → lv_has ls 4 [(0, .ref (ad 0)), (1, .int v1), (2, .int v2), (3, .int v3)] → W p l e rmX12_why s m args below meth c H locs 0 0 (MQ below (QL ZM D vwCl T (tysM T) A (fun z => ad = z) ro so lo) args s 0 0 A) (F0 m 14 ls [])) : ∀ (v1 : Int32) (v3 : Int32) (w0 : Int32) (sg : Sg) (lg : Lg), ∀ (H : Heap) (locs : List Loc) (ls : Array Slot), WS ZM D vwCl T ad sg lg A s.heap H locs → lv_has ls 4 [(0, .ref (ad 0)), (1, .int v1), (3, .int v3)] → fX12_why_45 r2 r14 v1 v3 w0 sg lg = some (ro, so, lo) → W p l e rmX12_why s m args below meth c H locs 0 0 (MQ below (QL ZM D vwCl T (tysM T) A (fun z => ad = z) ro so lo) args s 0 0 A) (F0 m 45 ls [.int w0]) := by
  obtain ⟨⟨hx, hb, hml, hown, hts⟩, hr, hlk, hK, hA, hsp⟩ := id C
  intro v1 v3 w0 sg lg H locs ls hw hl h
  unfold fX12_why_45 at h
  refine lv_iconst (v := (0 : Int32)) hx hb dX12_why_45 (by decide) ?_
  exact tX12_why_46 C hr2 hr14 v1 v3 (0 : Int32) w0 sg lg _ _ _ hw (lv_sub hl [0, 1, 2] rfl) h
def fX12_why_14 (r2 : (Int32 × Sg × Lg) → Option (Int64 × Sg × Lg)) (r14 : (Int32 × Int32 × Int32 × Sg × Lg) → Option (Int64 × Sg × Lg)) (v1 : Int32) (v2 : Int32) (v3 : Int32) (sg : Sg) (lg : Lg) : Option (Int64 × Sg × Lg) :=
  bnd3 (fX12_hens sg lg) (fun y1 sg2 lg3 => (if y1 ≤ v3 then (if v2 ≤ (1 : Int32) then lt (v1 + (1 : Int32)) (fun x7 => r2 (x7, sg2, lg3)) else some (((100 : Int64) + v1.toInt64), sg2, lg3)) else bnd3 (fX12_kind v3 sg2 lg3) (fun y8 sg9 lg10 => (if y8 = (3 : Int32) then bnd3 (fX12_askedBy v3 sg9 lg10) (fun y13 sg14 lg15 => (if y13 = v1 then fX12_why_46 r2 r14 v1 v3 (1 : Int32) v2 sg14 lg15 else fX12_why_45 r2 r14 v1 v3 v2 sg14 lg15)) else fX12_why_45 r2 r14 v1 v3 v2 sg9 lg10))))
set_option maxHeartbeats 4000000 in
set_option maxRecDepth 100000 in
theorem tX12_why_14 (C : Cx p s m args meth c cX12_why 4 RX12 wsX12_why (some .long) D vwCl (tysM T) A false []) {ro : Int64} {so : Sg} {lo : Lg} {r2 : (Int32 × Sg × Lg) → Option (Int64 × Sg × Lg)} {r14 : (Int32 × Int32 × Int32 × Sg × Lg) → Option (Int64 × Sg × Lg)} (hr2 : ∀ (v1 : Int32) (sg : Sg) (lg : Lg), r2 (v1, sg, lg) = some (ro, so, lo) → ∀ (H : Heap) (locs : List Loc) (ls : Array Slot), WS ZM D vwCl T ad sg lg A s.heap H locs → lv_has ls 4 [(0, .ref (ad 0)), (1, .int v1)] → W p l e rmX12_why s m args below meth c H locs 0 0 (MQ below (QL ZM D vwCl T (tysM T) A (fun z => ad = z) ro so lo) args s 0 0 A) (F0 m 2 ls [])) (hr14 : ∀ (v1 : Int32) (v2 : Int32) (v3 : Int32) (sg : Sg) (lg : Lg), r14 (v1, v2, v3, sg, lg) = some (ro, so, lo) → ∀ (H : Heap) (locs : List Loc) (ls : Array Slot), WS ZM D vwCl T ad sg lg A s.heap H locs → lv_has ls 4 [(0, .ref (ad 0)), (1, .int v1), (2, .int v2), (3, .int v3)] → W p l e rmX12_why s m args below meth c H locs 0 0 (MQ below (QL ZM D vwCl T (tysM T) A (fun z => ad = z) ro so lo) args s 0 0 A) (F0 m 14 ls [])) : ∀ (v1 : Int32) (v2 : Int32) (v3 : Int32) (sg : Sg) (lg : Lg), ∀ (H : Heap) (locs : List Loc) (ls : Array Slot), WS ZM D vwCl T ad sg lg A s.heap H locs → lv_has ls 4 [(0, .ref (ad 0)), (1, .int v1), (2, .int v2), (3, .int v3)] → fX12_why_14 r2 r14 v1 v2 v3 sg lg = some (ro, so, lo) → W p l e rmX12_why s m args below meth c H locs 0 0 (MQ below (QL ZM D vwCl T (tysM T) A (fun z => ad = z) ro so lo) args s 0 0 A) (F0 m 14 ls []) := by
  obtain ⟨⟨hx, hb, hml, hown, hts⟩, hr, hlk, hK, hA, hsp⟩ := id C
  intro v1 v2 v3 sg lg H locs ls hw hl h
  unfold fX12_why_14 at h
  refine lv_iload_n hx hb dX12_why_14 rfl (lv_at hl 3 rfl) ?_
  refine lv_aload_n hx hb dX12_why_15 rfl (lv_at hl 0 rfl) ?_
  obtain ⟨y1, sg2, lg3, hq4, h2⟩ := bnd3_some h
  replace h := h2
  clear h2
  refine r_cVi (As := []) (rest := [.int v3]) C hw 0 (by decide) (ci := 12) rfl rfl (mX12_hens l D T ad  H.size sg lg hq4) (cwV 0 hts gX12_why_X12_hens rfl rfl rfl (by decide +kernel) ⟨Nat.le_of_ble_eq_true rfl, Nat.le_of_ble_eq_true rfl⟩) rfl hl.1 rfl (Nat.le_of_ble_eq_true rfl) dX12_why_16 ⟨Nat.le_of_ble_eq_true rfl, Nat.le_of_ble_eq_true rfl⟩ (fun ad' H locs hp hw => ?_)
  subst hp
  refine W.widen (k := 0) (n := 0) (by decide) (by decide) ?_
  refine lv_icmp_ge (tgt := 54) hx hb dX12_why_19 (by decide) (fun c5 => ?_) (fun c5 => ?_)
  · replace h := ite_t h c5
    refine lv_iload_n hx hb dX12_why_54 rfl (lv_at hl 2 rfl) ?_
    refine lv_iconst (v := (1 : Int32)) hx hb dX12_why_55 (by decide) ?_
    refine lv_icmp_le (tgt := 66) hx hb dX12_why_56 (by decide) (fun c6 => ?_) (fun c6 => ?_)
    · replace h := ite_t h c6
      obtain ⟨x7, ex7⟩ : ∃ z : Int32, z = (v1 + (1 : Int32)) := ⟨_, rfl⟩
      replace h := lt_get h x7 ex7
      refine lv_iinc (v := x7) (lv' := [(1, .int x7), (0, .ref (ad 0)), (2, .int v2), (3, .int v3)]) hx hb dX12_why_66 hl (k := 1) rfl (by rw [ex7]; rfl) (by decide) rfl (fun ls hl => ?_)
      refine lv_goto (tgt := 2) hx hb dX12_why_69 (by decide) ?_
      exact hr2 x7 sg2 lg3 h _ _ _ hw (lv_sub hl [1, 0] rfl)
    · replace h := ite_f h c6
      refine lv_ldc2 hx hb hown (hts _ kX12_why_c168) dX12_why_59 ?_
      refine lv_iload_n hx hb dX12_why_62 rfl (lv_at hl 1 rfl) ?_
      refine lv_i2l (v := v1.toInt64) hx hb dX12_why_63 rfl ?_
      refine lv_ladd hx hb dX12_why_64 ?_
      cases h
      exact r_lret C hw rfl (by decide) (by decide) dX12_why_65
  · replace h := ite_f h c5
    refine lv_iload_n hx hb dX12_why_22 rfl (lv_at hl 2 rfl) ?_
    refine lv_aload_n hx hb dX12_why_23 rfl (lv_at hl 0 rfl) ?_
    refine lv_iload_n hx hb dX12_why_24 rfl (lv_at hl 3 rfl) ?_
    obtain ⟨y8, sg9, lg10, hq11, h2⟩ := bnd3_some h
    replace h := h2
    clear h2
    refine r_cVi (As := [.int v3]) (rest := [.int v2]) C hw 0 (by decide) (ci := 12) rfl rfl (mX12_kind l D T ad  H.size v3 sg2 lg3 hq11) (cwV 1 hts gX12_why_X12_kind rfl rfl rfl (by decide +kernel) ⟨Nat.le_of_ble_eq_true rfl, Nat.le_of_ble_eq_true rfl⟩) rfl hl.1 rfl (Nat.le_of_ble_eq_true rfl) dX12_why_25 ⟨Nat.le_of_ble_eq_true rfl, Nat.le_of_ble_eq_true rfl⟩ (fun ad' H locs hp hw => ?_)
    subst hp
    refine W.widen (k := 0) (n := 0) (by decide) (by decide) ?_
    refine lv_iconst (v := (3 : Int32)) hx hb dX12_why_28 (by decide) ?_
    refine lv_icmp_ne (tgt := 45) hx hb dX12_why_29 (by decide) (fun c12 => ?_) (fun c12 => ?_)
    · replace h := ite_f h c12
      exact tX12_why_45 C hr2 hr14 v1 v3 v2 sg9 lg10 _ _ _ hw (lv_sub hl [0, 1, 3] rfl) h
    · replace h := ite_t h c12
      refine lv_aload_n hx hb dX12_why_32 rfl (lv_at hl 0 rfl) ?_
      refine lv_iload_n hx hb dX12_why_33 rfl (lv_at hl 3 rfl) ?_
      obtain ⟨y13, sg14, lg15, hq16, h2⟩ := bnd3_some h
      replace h := h2
      clear h2
      refine r_cVi (As := [.int v3]) (rest := [.int v2]) C hw 0 (by decide) (ci := 12) rfl rfl (mX12_askedBy l D T ad  H.size v3 sg9 lg10 hq16) (cwV 1 hts gX12_why_X12_askedBy rfl rfl rfl (by decide +kernel) ⟨Nat.le_of_ble_eq_true rfl, Nat.le_of_ble_eq_true rfl⟩) rfl hl.1 rfl (Nat.le_of_ble_eq_true rfl) dX12_why_34 ⟨Nat.le_of_ble_eq_true rfl, Nat.le_of_ble_eq_true rfl⟩ (fun ad' H locs hp hw => ?_)
      subst hp
      refine W.widen (k := 0) (n := 0) (by decide) (by decide) ?_
      refine lv_iload_n hx hb dX12_why_37 rfl (lv_at hl 1 rfl) ?_
      refine lv_icmp_ne (tgt := 45) hx hb dX12_why_38 (by decide) (fun c17 => ?_) (fun c17 => ?_)
      · replace h := ite_f h c17
        exact tX12_why_45 C hr2 hr14 v1 v3 v2 sg14 lg15 _ _ _ hw (lv_sub hl [0, 1, 3] rfl) h
      · replace h := ite_t h c17
        refine lv_iconst (v := (1 : Int32)) hx hb dX12_why_41 (by decide) ?_
        refine lv_goto (tgt := 46) hx hb dX12_why_42 (by decide) ?_
        exact tX12_why_46 C hr2 hr14 v1 v3 (1 : Int32) v2 sg14 lg15 _ _ _ hw (lv_sub hl [0, 1, 3] rfl) h
def LX12_why_14 (r2 : (Int32 × Sg × Lg) → Option (Int64 × Sg × Lg)) : (Int32 × Int32 × Int32 × Sg × Lg) → Option (Int64 × Sg × Lg) := loop (fun rec z => fX12_why_14 r2 rec z.1 z.2.1 z.2.2.1 z.2.2.2.1 z.2.2.2.2)
theorem TX12_why_14 (C : Cx p s m args meth c cX12_why 4 RX12 wsX12_why (some .long) D vwCl (tysM T) A false []) {ro : Int64} {so : Sg} {lo : Lg} {r2 : (Int32 × Sg × Lg) → Option (Int64 × Sg × Lg)} (hr2 : ∀ (v1 : Int32) (sg : Sg) (lg : Lg), r2 (v1, sg, lg) = some (ro, so, lo) → ∀ (H : Heap) (locs : List Loc) (ls : Array Slot), WS ZM D vwCl T ad sg lg A s.heap H locs → lv_has ls 4 [(0, .ref (ad 0)), (1, .int v1)] → W p l e rmX12_why s m args below meth c H locs 0 0 (MQ below (QL ZM D vwCl T (tysM T) A (fun z => ad = z) ro so lo) args s 0 0 A) (F0 m 2 ls [])) : ∀ (v1 : Int32) (v2 : Int32) (v3 : Int32) (sg : Sg) (lg : Lg), LX12_why_14 r2 (v1, v2, v3, sg, lg) = some (ro, so, lo) → ∀ (H : Heap) (locs : List Loc) (ls : Array Slot), WS ZM D vwCl T ad sg lg A s.heap H locs → lv_has ls 4 [(0, .ref (ad 0)), (1, .int v1), (2, .int v2), (3, .int v3)] → W p l e rmX12_why s m args below meth c H locs 0 0 (MQ below (QL ZM D vwCl T (tysM T) A (fun z => ad = z) ro so lo) args s 0 0 A) (F0 m 14 ls []) := by
  have key : ∀ z : (Int32 × Int32 × Int32 × Sg × Lg), LX12_why_14 r2 z = some (ro, so, lo) → ∀ (H : Heap) (locs : List Loc) (ls : Array Slot), WS ZM D vwCl T ad z.2.2.2.1 z.2.2.2.2 A s.heap H locs → lv_has ls 4 [(0, .ref (ad 0)), (1, .int z.1), (2, .int z.2.1), (3, .int z.2.2.1)] → W p l e rmX12_why s m args below meth c H locs 0 0 (MQ below (QL ZM D vwCl T (tysM T) A (fun z => ad = z) ro so lo) args s 0 0 A) (F0 m 14 ls []) := by
    intro z h
    unfold LX12_why_14 at h
    exact loop_ind (fun rec z => fX12_why_14 r2 rec z.1 z.2.1 z.2.2.1 z.2.2.2.1 z.2.2.2.2) (y := (ro, so, lo)) (P := fun z => ∀ (H : Heap) (locs : List Loc) (ls : Array Slot), WS ZM D vwCl T ad z.2.2.2.1 z.2.2.2.2 A s.heap H locs → lv_has ls 4 [(0, .ref (ad 0)), (1, .int z.1), (2, .int z.2.1), (3, .int z.2.2.1)] → W p l e rmX12_why s m args below meth c H locs 0 0 (MQ below (QL ZM D vwCl T (tysM T) A (fun z => ad = z) ro so lo) args s 0 0 A) (F0 m 14 ls [])) (fun rec hrec z h H locs ls hw hl => tX12_why_14 C hr2 (fun v1 v2 v3 sg lg => hrec (v1, v2, v3, sg, lg)) z.1 z.2.1 z.2.2.1 z.2.2.2.1 z.2.2.2.2 H locs ls hw hl h) z h
  exact fun v1 v2 v3 sg lg => key (v1, v2, v3, sg, lg)
def fX12_why_2 (r2 : (Int32 × Sg × Lg) → Option (Int64 × Sg × Lg)) (v1 : Int32) (sg : Sg) (lg : Lg) : Option (Int64 × Sg × Lg) :=
  bnd3 (fX12_hens sg lg) (fun y1 sg2 lg3 => (if y1 ≤ v1 then bnd2 (fX12_findBlocks sg2 lg3) (fun sg6 lg7 => bnd2 (fX12_findDirect sg6 lg7) (fun sg9 lg10 => bnd2 (fX12_findAll sg9 lg10) (fun sg12 lg13 => LX12_why_86 ((0 : Int32), sg12, lg13)))) else LX12_why_14 r2 (v1, (0 : Int32), (0 : Int32), sg2, lg3)))
set_option maxHeartbeats 4000000 in
set_option maxRecDepth 100000 in
theorem tX12_why_2 (C : Cx p s m args meth c cX12_why 4 RX12 wsX12_why (some .long) D vwCl (tysM T) A false []) {ro : Int64} {so : Sg} {lo : Lg} {r2 : (Int32 × Sg × Lg) → Option (Int64 × Sg × Lg)} (hr2 : ∀ (v1 : Int32) (sg : Sg) (lg : Lg), r2 (v1, sg, lg) = some (ro, so, lo) → ∀ (H : Heap) (locs : List Loc) (ls : Array Slot), WS ZM D vwCl T ad sg lg A s.heap H locs → lv_has ls 4 [(0, .ref (ad 0)), (1, .int v1)] → W p l e rmX12_why s m args below meth c H locs 0 0 (MQ below (QL ZM D vwCl T (tysM T) A (fun z => ad = z) ro so lo) args s 0 0 A) (F0 m 2 ls [])) : ∀ (v1 : Int32) (sg : Sg) (lg : Lg), ∀ (H : Heap) (locs : List Loc) (ls : Array Slot), WS ZM D vwCl T ad sg lg A s.heap H locs → lv_has ls 4 [(0, .ref (ad 0)), (1, .int v1)] → fX12_why_2 r2 v1 sg lg = some (ro, so, lo) → W p l e rmX12_why s m args below meth c H locs 0 0 (MQ below (QL ZM D vwCl T (tysM T) A (fun z => ad = z) ro so lo) args s 0 0 A) (F0 m 2 ls []) := by
  obtain ⟨⟨hx, hb, hml, hown, hts⟩, hr, hlk, hK, hA, hsp⟩ := id C
  intro v1 sg lg H locs ls hw hl h
  unfold fX12_why_2 at h
  refine lv_iload_n hx hb dX12_why_2 rfl (lv_at hl 1 rfl) ?_
  refine lv_aload_n hx hb dX12_why_3 rfl (lv_at hl 0 rfl) ?_
  obtain ⟨y1, sg2, lg3, hq4, h2⟩ := bnd3_some h
  replace h := h2
  clear h2
  refine r_cVi (As := []) (rest := [.int v1]) C hw 0 (by decide) (ci := 12) rfl rfl (mX12_hens l D T ad  H.size sg lg hq4) (cwV 0 hts gX12_why_X12_hens rfl rfl rfl (by decide +kernel) ⟨Nat.le_of_ble_eq_true rfl, Nat.le_of_ble_eq_true rfl⟩) rfl hl.1 rfl (Nat.le_of_ble_eq_true rfl) dX12_why_4 ⟨Nat.le_of_ble_eq_true rfl, Nat.le_of_ble_eq_true rfl⟩ (fun ad' H locs hp hw => ?_)
  subst hp
  refine W.widen (k := 0) (n := 0) (by decide) (by decide) ?_
  refine lv_icmp_ge (tgt := 72) hx hb dX12_why_7 (by decide) (fun c5 => ?_) (fun c5 => ?_)
  · replace h := ite_t h c5
    refine lv_aload_n hx hb dX12_why_72 rfl (lv_at hl 0 rfl) ?_
    obtain ⟨sg6, lg7, hq8, h2⟩ := bnd2_some h
    replace h := h2
    clear h2
    refine r_cVv (As := []) (rest := []) C hw 0 (by decide) (ci := 12) rfl rfl (mX12_findBlocks l D T ad  H.size sg2 lg3 hq8) (cwV 0 hts gX12_why_X12_findBlocks rfl rfl rfl (by decide +kernel) ⟨Nat.le_of_ble_eq_true rfl, Nat.le_of_ble_eq_true rfl⟩) rfl hl.1 rfl (Nat.le_of_ble_eq_true rfl) dX12_why_73 ⟨Nat.le_of_ble_eq_true rfl, Nat.le_of_ble_eq_true rfl⟩ (fun ad' H locs hp hw => ?_)
    subst hp
    refine W.widen (k := 0) (n := 0) (by decide) (by decide) ?_
    refine lv_aload_n hx hb dX12_why_76 rfl (lv_at hl 0 rfl) ?_
    obtain ⟨sg9, lg10, hq11, h2⟩ := bnd2_some h
    replace h := h2
    clear h2
    refine r_cVv (As := []) (rest := []) C hw 0 (by decide) (ci := 12) rfl rfl (mX12_findDirect l D T ad  H.size sg6 lg7 hq11) (cwV 0 hts gX12_why_X12_findDirect rfl rfl rfl (by decide +kernel) ⟨Nat.le_of_ble_eq_true rfl, Nat.le_of_ble_eq_true rfl⟩) rfl hl.1 rfl (Nat.le_of_ble_eq_true rfl) dX12_why_77 ⟨Nat.le_of_ble_eq_true rfl, Nat.le_of_ble_eq_true rfl⟩ (fun ad' H locs hp hw => ?_)
    subst hp
    refine W.widen (k := 0) (n := 0) (by decide) (by decide) ?_
    refine lv_aload_n hx hb dX12_why_80 rfl (lv_at hl 0 rfl) ?_
    obtain ⟨sg12, lg13, hq14, h2⟩ := bnd2_some h
    replace h := h2
    clear h2
    refine r_cVv (As := []) (rest := []) C hw 0 (by decide) (ci := 12) rfl rfl (mX12_findAll l D T ad  H.size sg9 lg10 hq14) (cwV 0 hts gX12_why_X12_findAll rfl rfl rfl (by decide +kernel) ⟨Nat.le_of_ble_eq_true rfl, Nat.le_of_ble_eq_true rfl⟩) rfl hl.1 rfl (Nat.le_of_ble_eq_true rfl) dX12_why_81 ⟨Nat.le_of_ble_eq_true rfl, Nat.le_of_ble_eq_true rfl⟩ (fun ad' H locs hp hw => ?_)
    subst hp
    refine W.widen (k := 0) (n := 0) (by decide) (by decide) ?_
    refine lv_iconst (v := (0 : Int32)) hx hb dX12_why_84 (by decide) ?_
    refine lv_istore_n (lv' := [(1, .int (0 : Int32)), (0, .ref (ad 0))]) hx hb dX12_why_85 rfl hl (by decide) rfl (fun ls hl => ?_)
    exact TX12_why_86 C (0 : Int32) sg12 lg13 h _ _ _ hw (lv_sub hl [1, 0] rfl)
  · replace h := ite_f h c5
    refine lv_iconst (v := (0 : Int32)) hx hb dX12_why_10 (by decide) ?_
    refine lv_istore_n (lv' := [(2, .int (0 : Int32)), (0, .ref (ad 0)), (1, .int v1)]) hx hb dX12_why_11 rfl hl (by decide) rfl (fun ls hl => ?_)
    refine lv_iconst (v := (0 : Int32)) hx hb dX12_why_12 (by decide) ?_
    refine lv_istore_n (lv' := [(3, .int (0 : Int32)), (2, .int (0 : Int32)), (0, .ref (ad 0)), (1, .int v1)]) hx hb dX12_why_13 rfl hl (by decide) rfl (fun ls hl => ?_)
    exact TX12_why_14 C hr2 v1 (0 : Int32) (0 : Int32) sg2 lg3 h _ _ _ hw (lv_sub hl [2, 3, 1, 0] rfl)
def LX12_why_2  : (Int32 × Sg × Lg) → Option (Int64 × Sg × Lg) := loop (fun rec z => fX12_why_2 rec z.1 z.2.1 z.2.2)
theorem TX12_why_2 (C : Cx p s m args meth c cX12_why 4 RX12 wsX12_why (some .long) D vwCl (tysM T) A false []) {ro : Int64} {so : Sg} {lo : Lg}   : ∀ (v1 : Int32) (sg : Sg) (lg : Lg), LX12_why_2 (v1, sg, lg) = some (ro, so, lo) → ∀ (H : Heap) (locs : List Loc) (ls : Array Slot), WS ZM D vwCl T ad sg lg A s.heap H locs → lv_has ls 4 [(0, .ref (ad 0)), (1, .int v1)] → W p l e rmX12_why s m args below meth c H locs 0 0 (MQ below (QL ZM D vwCl T (tysM T) A (fun z => ad = z) ro so lo) args s 0 0 A) (F0 m 2 ls []) := by
  have key : ∀ z : (Int32 × Sg × Lg), LX12_why_2  z = some (ro, so, lo) → ∀ (H : Heap) (locs : List Loc) (ls : Array Slot), WS ZM D vwCl T ad z.2.1 z.2.2 A s.heap H locs → lv_has ls 4 [(0, .ref (ad 0)), (1, .int z.1)] → W p l e rmX12_why s m args below meth c H locs 0 0 (MQ below (QL ZM D vwCl T (tysM T) A (fun z => ad = z) ro so lo) args s 0 0 A) (F0 m 2 ls []) := by
    intro z h
    unfold LX12_why_2 at h
    exact loop_ind (fun rec z => fX12_why_2 rec z.1 z.2.1 z.2.2) (y := (ro, so, lo)) (P := fun z => ∀ (H : Heap) (locs : List Loc) (ls : Array Slot), WS ZM D vwCl T ad z.2.1 z.2.2 A s.heap H locs → lv_has ls 4 [(0, .ref (ad 0)), (1, .int z.1)] → W p l e rmX12_why s m args below meth c H locs 0 0 (MQ below (QL ZM D vwCl T (tysM T) A (fun z => ad = z) ro so lo) args s 0 0 A) (F0 m 2 ls [])) (fun rec hrec z h H locs ls hw hl => tX12_why_2 C  (fun v1 sg lg => hrec (v1, sg, lg)) z.1 z.2.1 z.2.2 H locs ls hw hl h) z h
  exact fun v1 sg lg => key (v1, sg, lg)
def fX12_why  (sg : Sg) (lg : Lg) : Option (Int64 × Sg × Lg) :=
  LX12_why_2 ((0 : Int32), sg, lg)
set_option maxHeartbeats 4000000 in
set_option maxRecDepth 100000 in
theorem tX12_why_0 (C : Cx p s m args meth c cX12_why 4 RX12 wsX12_why (some .long) D vwCl (tysM T) A false []) {ro : Int64} {so : Sg} {lo : Lg}   : ∀ (sg : Sg) (lg : Lg), ∀ (H : Heap) (locs : List Loc) (ls : Array Slot), WS ZM D vwCl T ad sg lg A s.heap H locs → lv_has ls 4 [(0, .ref (ad 0))] → fX12_why sg lg = some (ro, so, lo) → W p l e rmX12_why s m args below meth c H locs 0 0 (MQ below (QL ZM D vwCl T (tysM T) A (fun z => ad = z) ro so lo) args s 0 0 A) (F0 m 0 ls []) := by
  obtain ⟨⟨hx, hb, hml, hown, hts⟩, hr, hlk, hK, hA, hsp⟩ := id C
  intro sg lg H locs ls hw hl h
  unfold fX12_why at h
  refine lv_iconst (v := (0 : Int32)) hx hb dX12_why_0 (by decide) ?_
  refine lv_istore_n (lv' := [(1, .int (0 : Int32)), (0, .ref (ad 0))]) hx hb dX12_why_1 rfl hl (by decide) rfl (fun ls hl => ?_)
  exact TX12_why_2 C (0 : Int32) sg lg h _ _ _ hw (lv_sub hl [1, 0] rfl)
theorem mX12_why (l : Launch) (D : va_G) (T : Nat → ClassId) (ad : Nat → Nat)  (sz : Nat)   (sg : Sg) (lg : Lg) {ro : Int64} {so : Sg} {lo : Lg} (h : fX12_why sg lg = some (ro, so, lo)) : Met l yX12_why wsX12_why rmX12_why (PreZ ZM D vwCl T (tysM T) ad sg lg false [] [.ref (ad 0)] sz) (QL ZM D vwCl T (tysM T) (va_A (zwd ZM T ad sg lg) sz) (fun z => ad = z) ro so lo) 0 0 (va_A (zwd ZM T ad sg lg) sz) :=
  metZ [.ref (ad 0)] sz (by decide) rfl (Nat.le_of_ble_eq_true rfl) (fun p e s m below meth c ls C hw hl => tX12_why_0 C sg lg _ _ _ hw hl h)
-- PeckYardModel.begin()J
def rmX12_begin : Room := { frames := 0, cells := 0, slots := 0, locals := 0 }
theorem kX12_begin_f153 : Cond.fieldLink RX12 153 "PeckYardModel" "inHand" "I" ∈ wsX12_begin := by decide +kernel
theorem kX12_begin_iX12 : ∀ w ∈ u_ws RX12 TX12 18, w ∈ wsX12_begin := by decide +kernel
def fX12_begin  (sg : Sg) (lg : Lg) : Option (Int64 × Sg × Lg) :=
  lt (sg 0 4) (fun x1 => lt (up2 sg 0 4 (0 : Int32)) (fun sg2 => some (x1.toInt64, sg2, lg)))
set_option maxHeartbeats 4000000 in
set_option maxRecDepth 100000 in
theorem tX12_begin_0 (C : Cx p s m args meth c cX12_begin 2 RX12 wsX12_begin (some .long) D vwCl (tysM T) A false []) {ro : Int64} {so : Sg} {lo : Lg}   : ∀ (sg : Sg) (lg : Lg), ∀ (H : Heap) (locs : List Loc) (ls : Array Slot), WS ZM D vwCl T ad sg lg A s.heap H locs → lv_has ls 2 [(0, .ref (ad 0))] → fX12_begin sg lg = some (ro, so, lo) → W p l e rmX12_begin s m args below meth c H locs 0 0 (MQ below (QL ZM D vwCl T (tysM T) A (fun z => ad = z) ro so lo) args s 0 0 A) (F0 m 0 ls []) := by
  obtain ⟨⟨hx, hb, hml, hown, hts⟩, hr, hlk, hK, hA, hsp⟩ := id C
  intro sg lg H locs ls hw hl h
  unfold fX12_begin at h
  refine lv_aload_n hx hb dX12_begin_0 rfl (lv_at hl 0 rfl) ?_
  refine r_getI (ci := 12) (C := RX12) (U := TX12) (N := 18) hx hb hts kX12_begin_iX12 hown hK hw 0 (by decide) rfl rfl 4 (by decide) rfl (hts _ kX12_begin_f153) (fun _ h9 => h9) dX12_begin_1 ?_
  refine lv_topi (fun x1 ex1 => ?_)
  replace h := lt_get h x1 ex1
  refine lv_istore_n (lv' := [(1, .int x1), (0, .ref (ad 0))]) hx hb dX12_begin_4 rfl hl (by decide) rfl (fun ls hl => ?_)
  refine lv_aload_n hx hb dX12_begin_5 rfl (lv_at hl 1 rfl) ?_
  refine lv_iconst (v := (0 : Int32)) hx hb dX12_begin_6 (by decide) ?_
  refine r_putI ZM_ok (ci := 12) (C := RX12) (U := TX12) (N := 18) (ty := .int) hx hb hts kX12_begin_iX12 tyX12 tyX12_ok nmX12 hown hK hw 0 (by decide) rfl rfl 4 (by decide) rfl (hts _ kX12_begin_f153) (fun _ h9 => h9) rfl (by decide +kernel) rfl rfl dX12_begin_7 (fun H locs sg2 esg2 hw => ?_)
  replace h := lt_get h sg2 esg2
  refine lv_iload_n hx hb dX12_begin_10 rfl (lv_at hl 0 rfl) ?_
  refine lv_i2l (v := x1.toInt64) hx hb dX12_begin_11 rfl ?_
  cases h
  exact r_lret C hw rfl (by decide) (by decide) dX12_begin_12
theorem mX12_begin (l : Launch) (D : va_G) (T : Nat → ClassId) (ad : Nat → Nat)  (sz : Nat)   (sg : Sg) (lg : Lg) {ro : Int64} {so : Sg} {lo : Lg} (h : fX12_begin sg lg = some (ro, so, lo)) : Met l yX12_begin wsX12_begin rmX12_begin (PreZ ZM D vwCl T (tysM T) ad sg lg false [] [.ref (ad 0)] sz) (QL ZM D vwCl T (tysM T) (va_A (zwd ZM T ad sg lg) sz) (fun z => ad = z) ro so lo) 0 0 (va_A (zwd ZM T ad sg lg) sz) :=
  metZ [.ref (ad 0)] sz (by decide) rfl (Nat.le_of_ble_eq_true rfl) (fun p e s m below meth c ls C hw hl => tX12_begin_0 C sg lg _ _ _ hw hl h)
-- PeckYardModel.stands(I)Z
def rmX12_stands : Room := { frames := 0, cells := 0, slots := 0, locals := 0 }
theorem kX12_stands_f153 : Cond.fieldLink RX12 153 "PeckYardModel" "inHand" "I" ∈ wsX12_stands := by decide +kernel
theorem kX12_stands_iX12 : ∀ w ∈ u_ws RX12 TX12 18, w ∈ wsX12_stands := by decide +kernel
theorem kX12_stands_f16 : Cond.fieldLink RX12 16 "PeckYardModel" "hand" "[I" ∈ wsX12_stands := by decide +kernel
def fX12_stands_31 (r4 : (Int32 × Int32 × Int32 × Sg × Lg) → Option (Int32 × Sg × Lg)) (v1 : Int32) (v3 : Int32) (w0 : Int32) (sg : Sg) (lg : Lg) : Option (Int32 × Sg × Lg) :=
  lt (v3 + (1 : Int32)) (fun x1 => r4 (v1, w0, x1, sg, lg))
set_option maxHeartbeats 4000000 in
set_option maxRecDepth 100000 in
theorem tX12_stands_31 (C : Cx p s m args meth c cX12_stands 4 RX12 wsX12_stands (some .boolean) D vwCl (tysM T) A false []) {ro : Int32} {so : Sg} {lo : Lg} {r4 : (Int32 × Int32 × Int32 × Sg × Lg) → Option (Int32 × Sg × Lg)} (hr4 : ∀ (v1 : Int32) (v2 : Int32) (v3 : Int32) (sg : Sg) (lg : Lg), r4 (v1, v2, v3, sg, lg) = some (ro, so, lo) → ∀ (H : Heap) (locs : List Loc) (ls : Array Slot), WS ZM D vwCl T ad sg lg A s.heap H locs → lv_has ls 4 [(0, .ref (ad 0)), (1, .int v1), (2, .int v2), (3, .int v3)] → W p l e rmX12_stands s m args below meth c H locs 0 0 (MQ below (QI ZM D vwCl T (tysM T) A (fun z => ad = z) ro so lo) args s 0 0 A) (F0 m 4 ls [])) : ∀ (v1 : Int32) (v3 : Int32) (w0 : Int32) (sg : Sg) (lg : Lg), ∀ (H : Heap) (locs : List Loc) (ls : Array Slot), WS ZM D vwCl T ad sg lg A s.heap H locs → lv_has ls 4 [(0, .ref (ad 0)), (1, .int v1), (3, .int v3)] → fX12_stands_31 r4 v1 v3 w0 sg lg = some (ro, so, lo) → W p l e rmX12_stands s m args below meth c H locs 0 0 (MQ below (QI ZM D vwCl T (tysM T) A (fun z => ad = z) ro so lo) args s 0 0 A) (F0 m 31 ls [.int w0]) := by
  obtain ⟨⟨hx, hb, hml, hown, hts⟩, hr, hlk, hK, hA, hsp⟩ := id C
  intro v1 v3 w0 sg lg H locs ls hw hl h
  unfold fX12_stands_31 at h
  refine lv_istore_n (lv' := [(2, .int w0), (0, .ref (ad 0)), (1, .int v1), (3, .int v3)]) hx hb dX12_stands_31 rfl hl (by decide) rfl (fun ls hl => ?_)
  obtain ⟨x1, ex1⟩ : ∃ z : Int32, z = (v3 + (1 : Int32)) := ⟨_, rfl⟩
  replace h := lt_get h x1 ex1
  refine lv_iinc (v := x1) (lv' := [(3, .int x1), (2, .int w0), (0, .ref (ad 0)), (1, .int v1)]) hx hb dX12_stands_32 hl (k := 3) rfl (by rw [ex1]; rfl) (by decide) rfl (fun ls hl => ?_)
  refine lv_goto (tgt := 4) hx hb dX12_stands_35 (by decide) ?_
  exact hr4 v1 w0 x1 sg lg h _ _ _ hw (lv_sub hl [2, 3, 1, 0] rfl)
def fX12_stands_26 (r4 : (Int32 × Int32 × Int32 × Sg × Lg) → Option (Int32 × Sg × Lg)) (v1 : Int32) (v3 : Int32) (sg : Sg) (lg : Lg) : Option (Int32 × Sg × Lg) :=
  fX12_stands_31 r4 v1 v3 (1 : Int32) sg lg
set_option maxHeartbeats 4000000 in
set_option maxRecDepth 100000 in
theorem tX12_stands_26 (C : Cx p s m args meth c cX12_stands 4 RX12 wsX12_stands (some .boolean) D vwCl (tysM T) A false []) {ro : Int32} {so : Sg} {lo : Lg} {r4 : (Int32 × Int32 × Int32 × Sg × Lg) → Option (Int32 × Sg × Lg)} (hr4 : ∀ (v1 : Int32) (v2 : Int32) (v3 : Int32) (sg : Sg) (lg : Lg), r4 (v1, v2, v3, sg, lg) = some (ro, so, lo) → ∀ (H : Heap) (locs : List Loc) (ls : Array Slot), WS ZM D vwCl T ad sg lg A s.heap H locs → lv_has ls 4 [(0, .ref (ad 0)), (1, .int v1), (2, .int v2), (3, .int v3)] → W p l e rmX12_stands s m args below meth c H locs 0 0 (MQ below (QI ZM D vwCl T (tysM T) A (fun z => ad = z) ro so lo) args s 0 0 A) (F0 m 4 ls [])) : ∀ (v1 : Int32) (v3 : Int32) (sg : Sg) (lg : Lg), ∀ (H : Heap) (locs : List Loc) (ls : Array Slot), WS ZM D vwCl T ad sg lg A s.heap H locs → lv_has ls 4 [(0, .ref (ad 0)), (1, .int v1), (3, .int v3)] → fX12_stands_26 r4 v1 v3 sg lg = some (ro, so, lo) → W p l e rmX12_stands s m args below meth c H locs 0 0 (MQ below (QI ZM D vwCl T (tysM T) A (fun z => ad = z) ro so lo) args s 0 0 A) (F0 m 26 ls []) := by
  obtain ⟨⟨hx, hb, hml, hown, hts⟩, hr, hlk, hK, hA, hsp⟩ := id C
  intro v1 v3 sg lg H locs ls hw hl h
  unfold fX12_stands_26 at h
  refine lv_iconst (v := (1 : Int32)) hx hb dX12_stands_26 (by decide) ?_
  refine lv_goto (tgt := 31) hx hb dX12_stands_27 (by decide) ?_
  exact tX12_stands_31 C hr4 v1 v3 (1 : Int32) sg lg _ _ _ hw (lv_sub hl [0, 1, 2] rfl) h
def fX12_stands_4 (r4 : (Int32 × Int32 × Int32 × Sg × Lg) → Option (Int32 × Sg × Lg)) (v1 : Int32) (v2 : Int32) (v3 : Int32) (sg : Sg) (lg : Lg) : Option (Int32 × Sg × Lg) :=
  (if (sg 0 4) ≤ v3 then gz v2 (some (v2, sg, lg)) else (if v2 = 0 then gin v3 12 ((if (sg 3 v3.toNatClampNeg) = v1 then fX12_stands_26 r4 v1 v3 sg lg else fX12_stands_31 r4 v1 v3 (0 : Int32) sg lg)) else fX12_stands_26 r4 v1 v3 sg lg))
set_option maxHeartbeats 4000000 in
set_option maxRecDepth 100000 in
theorem tX12_stands_4 (C : Cx p s m args meth c cX12_stands 4 RX12 wsX12_stands (some .boolean) D vwCl (tysM T) A false []) {ro : Int32} {so : Sg} {lo : Lg} {r4 : (Int32 × Int32 × Int32 × Sg × Lg) → Option (Int32 × Sg × Lg)} (hr4 : ∀ (v1 : Int32) (v2 : Int32) (v3 : Int32) (sg : Sg) (lg : Lg), r4 (v1, v2, v3, sg, lg) = some (ro, so, lo) → ∀ (H : Heap) (locs : List Loc) (ls : Array Slot), WS ZM D vwCl T ad sg lg A s.heap H locs → lv_has ls 4 [(0, .ref (ad 0)), (1, .int v1), (2, .int v2), (3, .int v3)] → W p l e rmX12_stands s m args below meth c H locs 0 0 (MQ below (QI ZM D vwCl T (tysM T) A (fun z => ad = z) ro so lo) args s 0 0 A) (F0 m 4 ls [])) : ∀ (v1 : Int32) (v2 : Int32) (v3 : Int32) (sg : Sg) (lg : Lg), ∀ (H : Heap) (locs : List Loc) (ls : Array Slot), WS ZM D vwCl T ad sg lg A s.heap H locs → lv_has ls 4 [(0, .ref (ad 0)), (1, .int v1), (2, .int v2), (3, .int v3)] → fX12_stands_4 r4 v1 v2 v3 sg lg = some (ro, so, lo) → W p l e rmX12_stands s m args below meth c H locs 0 0 (MQ below (QI ZM D vwCl T (tysM T) A (fun z => ad = z) ro so lo) args s 0 0 A) (F0 m 4 ls []) := by
  obtain ⟨⟨hx, hb, hml, hown, hts⟩, hr, hlk, hK, hA, hsp⟩ := id C
  intro v1 v2 v3 sg lg H locs ls hw hl h
  unfold fX12_stands_4 at h
  refine lv_iload_n hx hb dX12_stands_4 rfl (lv_at hl 3 rfl) ?_
  refine lv_aload_n hx hb dX12_stands_5 rfl (lv_at hl 0 rfl) ?_
  refine r_getI (ci := 12) (C := RX12) (U := TX12) (N := 18) hx hb hts kX12_stands_iX12 hown hK hw 0 (by decide) rfl rfl 4 (by decide) rfl (hts _ kX12_stands_f153) (fun _ h9 => h9) dX12_stands_6 ?_
  refine lv_icmp_ge (tgt := 38) hx hb dX12_stands_9 (by decide) (fun c1 => ?_) (fun c1 => ?_)
  · replace h := ite_t h c1
    refine lv_iload_n hx hb dX12_stands_38 rfl (lv_at hl 2 rfl) ?_
    have hz2 := (gz_some h).1
    replace h := (gz_some h).2
    cases h
    exact r_zret C hw rfl hz2 (by decide) (by decide) dX12_stands_39
  · replace h := ite_f h c1
    refine lv_iload_n hx hb dX12_stands_12 rfl (lv_at hl 2 rfl) ?_
    refine lv_if_ne (tgt := 26) hx hb dX12_stands_13 (by decide) (fun c3 => ?_) (fun c3 => ?_)
    · replace h := ite_f h c3
      exact tX12_stands_26 C hr4 v1 v3 sg lg _ _ _ hw (lv_sub hl [0, 1, 3] rfl) h
    · replace h := ite_t h c3
      refine lv_aload_n hx hb dX12_stands_16 rfl (lv_at hl 0 rfl) ?_
      refine r_getR (ci := 12) (C := RX12) (U := TX12) (N := 18) hx hb hts kX12_stands_iX12 hown hK hw 0 (by decide) rfl rfl 3 (by decide) 3 rfl (hts _ kX12_stands_f16) (fun _ h9 => h9) dX12_stands_17 ?_
      refine lv_iload_n hx hb dX12_stands_20 rfl (lv_at hl 3 rfl) ?_
      have hi4 := (gin_some h).1
      replace h := (gin_some h).2
      refine r_iald hx hb hK hw 3 0 12 (by decide) rfl rfl rfl hi4 dX12_stands_21 ?_
      refine lv_iload_n hx hb dX12_stands_22 rfl (lv_at hl 1 rfl) ?_
      refine lv_icmp_ne (tgt := 30) hx hb dX12_stands_23 (by decide) (fun c5 => ?_) (fun c5 => ?_)
      · replace h := ite_f h c5
        refine lv_iconst (v := (0 : Int32)) hx hb dX12_stands_30 (by decide) ?_
        exact tX12_stands_31 C hr4 v1 v3 (0 : Int32) sg lg _ _ _ hw (lv_sub hl [0, 1, 3] rfl) h
      · replace h := ite_t h c5
        exact tX12_stands_26 C hr4 v1 v3 sg lg _ _ _ hw (lv_sub hl [0, 1, 3] rfl) h
def LX12_stands_4  : (Int32 × Int32 × Int32 × Sg × Lg) → Option (Int32 × Sg × Lg) := loop (fun rec z => fX12_stands_4 rec z.1 z.2.1 z.2.2.1 z.2.2.2.1 z.2.2.2.2)
theorem TX12_stands_4 (C : Cx p s m args meth c cX12_stands 4 RX12 wsX12_stands (some .boolean) D vwCl (tysM T) A false []) {ro : Int32} {so : Sg} {lo : Lg}   : ∀ (v1 : Int32) (v2 : Int32) (v3 : Int32) (sg : Sg) (lg : Lg), LX12_stands_4 (v1, v2, v3, sg, lg) = some (ro, so, lo) → ∀ (H : Heap) (locs : List Loc) (ls : Array Slot), WS ZM D vwCl T ad sg lg A s.heap H locs → lv_has ls 4 [(0, .ref (ad 0)), (1, .int v1), (2, .int v2), (3, .int v3)] → W p l e rmX12_stands s m args below meth c H locs 0 0 (MQ below (QI ZM D vwCl T (tysM T) A (fun z => ad = z) ro so lo) args s 0 0 A) (F0 m 4 ls []) := by
  have key : ∀ z : (Int32 × Int32 × Int32 × Sg × Lg), LX12_stands_4  z = some (ro, so, lo) → ∀ (H : Heap) (locs : List Loc) (ls : Array Slot), WS ZM D vwCl T ad z.2.2.2.1 z.2.2.2.2 A s.heap H locs → lv_has ls 4 [(0, .ref (ad 0)), (1, .int z.1), (2, .int z.2.1), (3, .int z.2.2.1)] → W p l e rmX12_stands s m args below meth c H locs 0 0 (MQ below (QI ZM D vwCl T (tysM T) A (fun z => ad = z) ro so lo) args s 0 0 A) (F0 m 4 ls []) := by
    intro z h
    unfold LX12_stands_4 at h
    exact loop_ind (fun rec z => fX12_stands_4 rec z.1 z.2.1 z.2.2.1 z.2.2.2.1 z.2.2.2.2) (y := (ro, so, lo)) (P := fun z => ∀ (H : Heap) (locs : List Loc) (ls : Array Slot), WS ZM D vwCl T ad z.2.2.2.1 z.2.2.2.2 A s.heap H locs → lv_has ls 4 [(0, .ref (ad 0)), (1, .int z.1), (2, .int z.2.1), (3, .int z.2.2.1)] → W p l e rmX12_stands s m args below meth c H locs 0 0 (MQ below (QI ZM D vwCl T (tysM T) A (fun z => ad = z) ro so lo) args s 0 0 A) (F0 m 4 ls [])) (fun rec hrec z h H locs ls hw hl => tX12_stands_4 C  (fun v1 v2 v3 sg lg => hrec (v1, v2, v3, sg, lg)) z.1 z.2.1 z.2.2.1 z.2.2.2.1 z.2.2.2.2 H locs ls hw hl h) z h
  exact fun v1 v2 v3 sg lg => key (v1, v2, v3, sg, lg)
def fX12_stands  (v1 : Int32) (sg : Sg) (lg : Lg) : Option (Int32 × Sg × Lg) :=
  LX12_stands_4 (v1, (0 : Int32), (0 : Int32), sg, lg)
set_option maxHeartbeats 4000000 in
set_option maxRecDepth 100000 in
theorem tX12_stands_0 (C : Cx p s m args meth c cX12_stands 4 RX12 wsX12_stands (some .boolean) D vwCl (tysM T) A false []) {ro : Int32} {so : Sg} {lo : Lg}   : ∀ (v1 : Int32) (sg : Sg) (lg : Lg), ∀ (H : Heap) (locs : List Loc) (ls : Array Slot), WS ZM D vwCl T ad sg lg A s.heap H locs → lv_has ls 4 [(0, .ref (ad 0)), (1, .int v1)] → fX12_stands v1 sg lg = some (ro, so, lo) → W p l e rmX12_stands s m args below meth c H locs 0 0 (MQ below (QI ZM D vwCl T (tysM T) A (fun z => ad = z) ro so lo) args s 0 0 A) (F0 m 0 ls []) := by
  obtain ⟨⟨hx, hb, hml, hown, hts⟩, hr, hlk, hK, hA, hsp⟩ := id C
  intro v1 sg lg H locs ls hw hl h
  unfold fX12_stands at h
  refine lv_iconst (v := (0 : Int32)) hx hb dX12_stands_0 (by decide) ?_
  refine lv_istore_n (lv' := [(2, .int (0 : Int32)), (0, .ref (ad 0)), (1, .int v1)]) hx hb dX12_stands_1 rfl hl (by decide) rfl (fun ls hl => ?_)
  refine lv_iconst (v := (0 : Int32)) hx hb dX12_stands_2 (by decide) ?_
  refine lv_istore_n (lv' := [(3, .int (0 : Int32)), (2, .int (0 : Int32)), (0, .ref (ad 0)), (1, .int v1)]) hx hb dX12_stands_3 rfl hl (by decide) rfl (fun ls hl => ?_)
  exact TX12_stands_4 C v1 (0 : Int32) (0 : Int32) sg lg h _ _ _ hw (lv_sub hl [2, 3, 1, 0] rfl)
theorem mX12_stands (l : Launch) (D : va_G) (T : Nat → ClassId) (ad : Nat → Nat)  (sz : Nat)   (v1 : Int32) (sg : Sg) (lg : Lg) {ro : Int32} {so : Sg} {lo : Lg} (h : fX12_stands v1 sg lg = some (ro, so, lo)) : Met l yX12_stands wsX12_stands rmX12_stands (PreZ ZM D vwCl T (tysM T) ad sg lg false [] [.ref (ad 0), .int v1] sz) (QI ZM D vwCl T (tysM T) (va_A (zwd ZM T ad sg lg) sz) (fun z => ad = z) ro so lo) 0 0 (va_A (zwd ZM T ad sg lg) sz) :=
  metZ [.ref (ad 0), .int v1] sz (by decide) rfl (Nat.le_of_ble_eq_true rfl) (fun p e s m below meth c ls C hw hl => tX12_stands_0 C v1 sg lg _ _ _ hw hl h)
end ZM
