section ZM
variable {p : Program} {l : Launch} {e : Env} {s : State} {m : MethodId} {args : Array Value} {below : List Frame} {meth : Method} {c : Code} {D : va_G} {T : Nat → ClassId} {A : Nat → Prop} {ad a : Nat → Nat}
-- PeckYardModel.findGroups()I
def rmX12_findGroups : Room := { frames := 4, cells := 0, slots := 0, locals := 90 }
theorem kX12_findGroups_f37 : Cond.fieldLink RX12 37 "PeckYardModel" "group" "[I" ∈ wsX12_findGroups := by decide +kernel
theorem kX12_findGroups_iX12 : ∀ w ∈ u_ws RX12 TX12 18, w ∈ wsX12_findGroups := by decide +kernel
def fX12_findGroups_99 (r29 : (Int32 × Int32 × Sg × Lg) → Option (Int32 × Sg × Lg)) (v1 : Int32) (v2 : Int32) (sg : Sg) (lg : Lg) : Option (Int32 × Sg × Lg) :=
  lt (v2 + (1 : Int32)) (fun x1 => r29 (v1, x1, sg, lg))
set_option maxHeartbeats 4000000 in
set_option maxRecDepth 100000 in
theorem tX12_findGroups_99 (C : Cx p s m args meth c cX12_findGroups 4 RX12 wsX12_findGroups (some .int) D vwCl (tysM T) A false []) {ro : Int32} {so : Sg} {lo : Lg} {r29 : (Int32 × Int32 × Sg × Lg) → Option (Int32 × Sg × Lg)} (hr29 : ∀ (v1 : Int32) (v2 : Int32) (sg : Sg) (lg : Lg), r29 (v1, v2, sg, lg) = some (ro, so, lo) → ∀ (H : Heap) (locs : List Loc) (ls : Array Slot), WS ZM D vwCl T ad sg lg A s.heap H locs → lv_has ls 4 [(0, .ref (ad 0)), (1, .int v1), (2, .int v2)] → W p l e rmX12_findGroups s m args below meth c H locs 0 0 (MQ below (QI ZM D vwCl T (tysM T) A (fun z => ad = z) ro so lo) args s 0 0 A) (F0 m 29 ls [])) : ∀ (v1 : Int32) (v2 : Int32) (sg : Sg) (lg : Lg), ∀ (H : Heap) (locs : List Loc) (ls : Array Slot), WS ZM D vwCl T ad sg lg A s.heap H locs → lv_has ls 4 [(0, .ref (ad 0)), (1, .int v1), (2, .int v2)] → fX12_findGroups_99 r29 v1 v2 sg lg = some (ro, so, lo) → W p l e rmX12_findGroups s m args below meth c H locs 0 0 (MQ below (QI ZM D vwCl T (tysM T) A (fun z => ad = z) ro so lo) args s 0 0 A) (F0 m 99 ls []) := by
  obtain ⟨⟨hx, hb, hml, hown, hts⟩, hr, hlk, hK, hA, hsp⟩ := id C
  intro v1 v2 sg lg H locs ls hw hl h
  unfold fX12_findGroups_99 at h
  obtain ⟨x1, ex1⟩ : ∃ z : Int32, z = (v2 + (1 : Int32)) := ⟨_, rfl⟩
  replace h := lt_get h x1 ex1
  refine lv_iinc (v := x1) (lv' := [(2, .int x1), (0, .ref (ad 0)), (1, .int v1)]) hx hb dX12_findGroups_99 hl (k := 2) rfl (by rw [ex1]; rfl) (by decide) rfl (fun ls hl => ?_)
  refine lv_goto (tgt := 29) hx hb dX12_findGroups_102 (by decide) ?_
  exact hr29 v1 x1 sg lg h _ _ _ hw (lv_sub hl [1, 2, 0] rfl)
def fX12_findGroups_87 (r29 : (Int32 × Int32 × Sg × Lg) → Option (Int32 × Sg × Lg)) (r47 : (Int32 × Int32 × Int32 × Sg × Lg) → Option (Int32 × Sg × Lg)) (v1 : Int32) (v2 : Int32) (v3 : Int32) (w0 : Int32) (w1 : Int32) (sg : Sg) (lg : Lg) : Option (Int32 × Sg × Lg) :=
  gin w1 12 (lt (up2 sg 9 w1.toNatClampNeg w0) (fun sg2 => lt (v3 + (1 : Int32)) (fun x3 => r47 (v1, v2, x3, sg2, lg))))
set_option maxHeartbeats 4000000 in
set_option maxRecDepth 100000 in
theorem tX12_findGroups_87 (C : Cx p s m args meth c cX12_findGroups 4 RX12 wsX12_findGroups (some .int) D vwCl (tysM T) A false []) {ro : Int32} {so : Sg} {lo : Lg} {r29 : (Int32 × Int32 × Sg × Lg) → Option (Int32 × Sg × Lg)} {r47 : (Int32 × Int32 × Int32 × Sg × Lg) → Option (Int32 × Sg × Lg)} (hr29 : ∀ (v1 : Int32) (v2 : Int32) (sg : Sg) (lg : Lg), r29 (v1, v2, sg, lg) = some (ro, so, lo) → ∀ (H : Heap) (locs : List Loc) (ls : Array Slot), WS ZM D vwCl T ad sg lg A s.heap H locs → lv_has ls 4 [(0, .ref (ad 0)), (1, .int v1), (2, .int v2)] → W p l e rmX12_findGroups s m args below meth c H locs 0 0 (MQ below (QI ZM D vwCl T (tysM T) A (fun z => ad = z) ro so lo) args s 0 0 A) (F0 m 29 ls [])) (hr47 : ∀ (v1 : Int32) (v2 : Int32) (v3 : Int32) (sg : Sg) (lg : Lg), r47 (v1, v2, v3, sg, lg) = some (ro, so, lo) → ∀ (H : Heap) (locs : List Loc) (ls : Array Slot), WS ZM D vwCl T ad sg lg A s.heap H locs → lv_has ls 4 [(0, .ref (ad 0)), (1, .int v1), (2, .int v2), (3, .int v3)] → W p l e rmX12_findGroups s m args below meth c H locs 0 0 (MQ below (QI ZM D vwCl T (tysM T) A (fun z => ad = z) ro so lo) args s 0 0 A) (F0 m 47 ls [])) : ∀ (v1 : Int32) (v2 : Int32) (v3 : Int32) (w0 : Int32) (w1 : Int32) (sg : Sg) (lg : Lg), ∀ (H : Heap) (locs : List Loc) (ls : Array Slot), WS ZM D vwCl T ad sg lg A s.heap H locs → lv_has ls 4 [(0, .ref (ad 0)), (1, .int v1), (2, .int v2), (3, .int v3)] → fX12_findGroups_87 r29 r47 v1 v2 v3 w0 w1 sg lg = some (ro, so, lo) → W p l e rmX12_findGroups s m args below meth c H locs 0 0 (MQ below (QI ZM D vwCl T (tysM T) A (fun z => ad = z) ro so lo) args s 0 0 A) (F0 m 87 ls [.int w0, .int w1, .ref (ad 9)]) := by
  obtain ⟨⟨hx, hb, hml, hown, hts⟩, hr, hlk, hK, hA, hsp⟩ := id C
  intro v1 v2 v3 w0 w1 sg lg H locs ls hw hl h
  unfold fX12_findGroups_87 at h
  have hi1 := (gin_some h).1
  replace h := (gin_some h).2
  refine r_iast ZM_ok hx hb hK hw 9 0 12 (by decide) rfl rfl rfl hi1 dX12_findGroups_87 (fun H locs sg2 esg2 hw => ?_)
  replace h := lt_get h sg2 esg2
  obtain ⟨x3, ex3⟩ : ∃ z : Int32, z = (v3 + (1 : Int32)) := ⟨_, rfl⟩
  replace h := lt_get h x3 ex3
  refine lv_iinc (v := x3) (lv' := [(3, .int x3), (0, .ref (ad 0)), (1, .int v1), (2, .int v2)]) hx hb dX12_findGroups_88 hl (k := 3) rfl (by rw [ex3]; rfl) (by decide) rfl (fun ls hl => ?_)
  refine lv_goto (tgt := 47) hx hb dX12_findGroups_91 (by decide) ?_
  exact hr47 v1 v2 x3 sg2 lg h _ _ _ hw (lv_sub hl [1, 2, 3, 0] rfl)
def fX12_findGroups_81 (r29 : (Int32 × Int32 × Sg × Lg) → Option (Int32 × Sg × Lg)) (r47 : (Int32 × Int32 × Int32 × Sg × Lg) → Option (Int32 × Sg × Lg)) (v1 : Int32) (v2 : Int32) (v3 : Int32) (w0 : Int32) (sg : Sg) (lg : Lg) : Option (Int32 × Sg × Lg) :=
  gin v3 12 (fX12_findGroups_87 r29 r47 v1 v2 v3 (sg 9 v3.toNatClampNeg) w0 sg lg)
set_option maxHeartbeats 4000000 in
set_option maxRecDepth 100000 in
theorem tX12_findGroups_81 (C : Cx p s m args meth c cX12_findGroups 4 RX12 wsX12_findGroups (some .int) D vwCl (tysM T) A false []) {ro : Int32} {so : Sg} {lo : Lg} {r29 : (Int32 × Int32 × Sg × Lg) → Option (Int32 × Sg × Lg)} {r47 : (Int32 × Int32 × Int32 × Sg × Lg) → Option (Int32 × Sg × Lg)} (hr29 : ∀ (v1 : Int32) (v2 : Int32) (sg : Sg) (lg : Lg), r29 (v1, v2, sg, lg) = some (ro, so, lo) → ∀ (H : Heap) (locs : List Loc) (ls : Array Slot), WS ZM D vwCl T ad sg lg A s.heap H locs → lv_has ls 4 [(0, .ref (ad 0)), (1, .int v1), (2, .int v2)] → W p l e rmX12_findGroups s m args below meth c H locs 0 0 (MQ below (QI ZM D vwCl T (tysM T) A (fun z => ad = z) ro so lo) args s 0 0 A) (F0 m 29 ls [])) (hr47 : ∀ (v1 : Int32) (v2 : Int32) (v3 : Int32) (sg : Sg) (lg : Lg), r47 (v1, v2, v3, sg, lg) = some (ro, so, lo) → ∀ (H : Heap) (locs : List Loc) (ls : Array Slot), WS ZM D vwCl T ad sg lg A s.heap H locs → lv_has ls 4 [(0, .ref (ad 0)), (1, .int v1), (2, .int v2), (3, .int v3)] → W p l e rmX12_findGroups s m args below meth c H locs 0 0 (MQ below (QI ZM D vwCl T (tysM T) A (fun z => ad = z) ro so lo) args s 0 0 A) (F0 m 47 ls [])) : ∀ (v1 : Int32) (v2 : Int32) (v3 : Int32) (w0 : Int32) (sg : Sg) (lg : Lg), ∀ (H : Heap) (locs : List Loc) (ls : Array Slot), WS ZM D vwCl T ad sg lg A s.heap H locs → lv_has ls 4 [(0, .ref (ad 0)), (1, .int v1), (2, .int v2), (3, .int v3)] → fX12_findGroups_81 r29 r47 v1 v2 v3 w0 sg lg = some (ro, so, lo) → W p l e rmX12_findGroups s m args below meth c H locs 0 0 (MQ below (QI ZM D vwCl T (tysM T) A (fun z => ad = z) ro so lo) args s 0 0 A) (F0 m 81 ls [.int w0, .ref (ad 9)]) := by
  obtain ⟨⟨hx, hb, hml, hown, hts⟩, hr, hlk, hK, hA, hsp⟩ := id C
  intro v1 v2 v3 w0 sg lg H locs ls hw hl h
  unfold fX12_findGroups_81 at h
  refine lv_aload_n hx hb dX12_findGroups_81 rfl (lv_at hl 0 rfl) ?_
  refine r_getR (ci := 12) (C := RX12) (U := TX12) (N := 18) hx hb hts kX12_findGroups_iX12 hown hK hw 0 (by decide) rfl rfl 13 (by decide) 9 rfl (hts _ kX12_findGroups_f37) (fun _ h9 => h9) dX12_findGroups_82 ?_
  refine lv_iload_n hx hb dX12_findGroups_85 rfl (lv_at hl 3 rfl) ?_
  have hi1 := (gin_some h).1
  replace h := (gin_some h).2
  refine r_iald hx hb hK hw 9 0 12 (by decide) rfl rfl rfl hi1 dX12_findGroups_86 ?_
  exact tX12_findGroups_87 C hr29 hr47 v1 v2 v3 (sg 9 v3.toNatClampNeg) w0 sg lg _ _ _ hw (lv_sub hl [0, 1, 2, 3] rfl) h
def fX12_findGroups_47 (r29 : (Int32 × Int32 × Sg × Lg) → Option (Int32 × Sg × Lg)) (r47 : (Int32 × Int32 × Int32 × Sg × Lg) → Option (Int32 × Sg × Lg)) (v1 : Int32) (v2 : Int32) (v3 : Int32) (sg : Sg) (lg : Lg) : Option (Int32 × Sg × Lg) :=
  bnd3 (fX12_hens sg lg) (fun y1 sg2 lg3 => (if y1 ≤ v3 then lt (v1 + (1 : Int32)) (fun x6 => fX12_findGroups_99 r29 x6 (-1 : Int32) sg2 lg3) else bnd3 (fX12_counts v3 sg2 lg3) (fun y7 sg8 lg9 => (if y7 = 0 then fX12_findGroups_81 r29 r47 v1 v2 v3 v3 sg8 lg9 else bnd3 (fX12_isOne v3 v2 sg8 lg9) (fun y12 sg13 lg14 => (if y12 = 0 then fX12_findGroups_81 r29 r47 v1 v2 v3 v3 sg13 lg14 else fX12_findGroups_87 r29 r47 v1 v2 v3 v1 v3 sg13 lg14))))))
set_option maxHeartbeats 4000000 in
set_option maxRecDepth 100000 in
theorem tX12_findGroups_47 (C : Cx p s m args meth c cX12_findGroups 4 RX12 wsX12_findGroups (some .int) D vwCl (tysM T) A false []) {ro : Int32} {so : Sg} {lo : Lg} {r29 : (Int32 × Int32 × Sg × Lg) → Option (Int32 × Sg × Lg)} {r47 : (Int32 × Int32 × Int32 × Sg × Lg) → Option (Int32 × Sg × Lg)} (hr29 : ∀ (v1 : Int32) (v2 : Int32) (sg : Sg) (lg : Lg), r29 (v1, v2, sg, lg) = some (ro, so, lo) → ∀ (H : Heap) (locs : List Loc) (ls : Array Slot), WS ZM D vwCl T ad sg lg A s.heap H locs → lv_has ls 4 [(0, .ref (ad 0)), (1, .int v1), (2, .int v2)] → W p l e rmX12_findGroups s m args below meth c H locs 0 0 (MQ below (QI ZM D vwCl T (tysM T) A (fun z => ad = z) ro so lo) args s 0 0 A) (F0 m 29 ls [])) (hr47 : ∀ (v1 : Int32) (v2 : Int32) (v3 : Int32) (sg : Sg) (lg : Lg), r47 (v1, v2, v3, sg, lg) = some (ro, so, lo) → ∀ (H : Heap) (locs : List Loc) (ls : Array Slot), WS ZM D vwCl T ad sg lg A s.heap H locs → lv_has ls 4 [(0, .ref (ad 0)), (1, .int v1), (2, .int v2), (3, .int v3)] → W p l e rmX12_findGroups s m args below meth c H locs 0 0 (MQ below (QI ZM D vwCl T (tysM T) A (fun z => ad = z) ro so lo) args s 0 0 A) (F0 m 47 ls [])) : ∀ (v1 : Int32) (v2 : Int32) (v3 : Int32) (sg : Sg) (lg : Lg), ∀ (H : Heap) (locs : List Loc) (ls : Array Slot), WS ZM D vwCl T ad sg lg A s.heap H locs → lv_has ls 4 [(0, .ref (ad 0)), (1, .int v1), (2, .int v2), (3, .int v3)] → fX12_findGroups_47 r29 r47 v1 v2 v3 sg lg = some (ro, so, lo) → W p l e rmX12_findGroups s m args below meth c H locs 0 0 (MQ below (QI ZM D vwCl T (tysM T) A (fun z => ad = z) ro so lo) args s 0 0 A) (F0 m 47 ls []) := by
  obtain ⟨⟨hx, hb, hml, hown, hts⟩, hr, hlk, hK, hA, hsp⟩ := id C
  intro v1 v2 v3 sg lg H locs ls hw hl h
  unfold fX12_findGroups_47 at h
  refine lv_iload_n hx hb dX12_findGroups_47 rfl (lv_at hl 3 rfl) ?_
  refine lv_aload_n hx hb dX12_findGroups_48 rfl (lv_at hl 0 rfl) ?_
  obtain ⟨y1, sg2, lg3, hq4, h2⟩ := bnd3_some h
  replace h := h2
  clear h2
  refine r_cVi (As := []) (rest := [.int v3]) C hw 0 (by decide) (ci := 12) rfl rfl (mX12_hens l D T ad  H.size sg lg hq4) (cwV 0 hts gX12_findGroups_X12_hens rfl rfl rfl (by decide +kernel) ⟨Nat.le_of_ble_eq_true rfl, Nat.le_of_ble_eq_true rfl⟩) rfl hl.1 rfl (Nat.le_of_ble_eq_true rfl) dX12_findGroups_49 ⟨Nat.le_of_ble_eq_true rfl, Nat.le_of_ble_eq_true rfl⟩ (fun ad' H locs hp hw => ?_)
  subst hp
  refine W.widen (k := 0) (n := 0) (by decide) (by decide) ?_
  refine lv_icmp_ge (tgt := 94) hx hb dX12_findGroups_52 (by decide) (fun c5 => ?_) (fun c5 => ?_)
  · replace h := ite_t h c5
    obtain ⟨x6, ex6⟩ : ∃ z : Int32, z = (v1 + (1 : Int32)) := ⟨_, rfl⟩
    replace h := lt_get h x6 ex6
    refine lv_iinc (v := x6) (lv' := [(1, .int x6), (0, .ref (ad 0)), (2, .int v2), (3, .int v3)]) hx hb dX12_findGroups_94 hl (k := 1) rfl (by rw [ex6]; rfl) (by decide) rfl (fun ls hl => ?_)
    refine lv_iconst (v := (-1 : Int32)) hx hb dX12_findGroups_97 (by decide) ?_
    refine lv_istore_n (lv' := [(2, .int (-1 : Int32)), (1, .int x6), (0, .ref (ad 0)), (3, .int v3)]) hx hb dX12_findGroups_98 rfl hl (by decide) rfl (fun ls hl => ?_)
    exact tX12_findGroups_99 C hr29 x6 (-1 : Int32) sg2 lg3 _ _ _ hw (lv_sub hl [2, 1, 0] rfl) h
  · replace h := ite_f h c5
    refine lv_aload_n hx hb dX12_findGroups_55 rfl (lv_at hl 0 rfl) ?_
    refine r_getR (ci := 12) (C := RX12) (U := TX12) (N := 18) hx hb hts kX12_findGroups_iX12 hown hK hw 0 (by decide) rfl rfl 13 (by decide) 9 rfl (hts _ kX12_findGroups_f37) (fun _ h9 => h9) dX12_findGroups_56 ?_
    refine lv_iload_n hx hb dX12_findGroups_59 rfl (lv_at hl 3 rfl) ?_
    refine lv_aload_n hx hb dX12_findGroups_60 rfl (lv_at hl 0 rfl) ?_
    refine lv_iload_n hx hb dX12_findGroups_61 rfl (lv_at hl 3 rfl) ?_
    obtain ⟨y7, sg8, lg9, hq10, h2⟩ := bnd3_some h
    replace h := h2
    clear h2
    refine r_cVi (As := [.int v3]) (rest := [.int v3, .ref (ad 9)]) C hw 0 (by decide) (ci := 12) rfl rfl (mX12_counts l D T ad  H.size v3 sg2 lg3 hq10) (cwV 1 hts gX12_findGroups_X12_counts rfl rfl rfl (by decide +kernel) ⟨Nat.le_of_ble_eq_true rfl, Nat.le_of_ble_eq_true rfl⟩) rfl hl.1 rfl (Nat.le_of_ble_eq_true rfl) dX12_findGroups_62 ⟨Nat.le_of_ble_eq_true rfl, Nat.le_of_ble_eq_true rfl⟩ (fun ad' H locs hp hw => ?_)
    subst hp
    refine W.widen (k := 0) (n := 0) (by decide) (by decide) ?_
    refine lv_if_eq (tgt := 81) hx hb dX12_findGroups_65 (by decide) (fun c11 => ?_) (fun c11 => ?_)
    · replace h := ite_t h c11
      exact tX12_findGroups_81 C hr29 hr47 v1 v2 v3 v3 sg8 lg9 _ _ _ hw (lv_sub hl [0, 1, 2, 3] rfl) h
    · replace h := ite_f h c11
      refine lv_aload_n hx hb dX12_findGroups_68 rfl (lv_at hl 0 rfl) ?_
      refine lv_iload_n hx hb dX12_findGroups_69 rfl (lv_at hl 3 rfl) ?_
      refine lv_iload_n hx hb dX12_findGroups_70 rfl (lv_at hl 2 rfl) ?_
      obtain ⟨y12, sg13, lg14, hq15, h2⟩ := bnd3_some h
      replace h := h2
      clear h2
      refine r_cVi (As := [.int v3, .int v2]) (rest := [.int v3, .ref (ad 9)]) C hw 0 (by decide) (ci := 12) rfl rfl (mX12_isOne l D T ad  H.size v3 v2 sg8 lg9 hq15) (cwV 2 hts gX12_findGroups_X12_isOne rfl rfl rfl (by decide +kernel) ⟨Nat.le_of_ble_eq_true rfl, Nat.le_of_ble_eq_true rfl⟩) rfl hl.1 rfl (Nat.le_of_ble_eq_true rfl) dX12_findGroups_71 ⟨Nat.le_of_ble_eq_true rfl, Nat.le_of_ble_eq_true rfl⟩ (fun ad' H locs hp hw => ?_)
      subst hp
      refine W.widen (k := 0) (n := 0) (by decide) (by decide) ?_
      refine lv_if_eq (tgt := 81) hx hb dX12_findGroups_74 (by decide) (fun c16 => ?_) (fun c16 => ?_)
      · replace h := ite_t h c16
        exact tX12_findGroups_81 C hr29 hr47 v1 v2 v3 v3 sg13 lg14 _ _ _ hw (lv_sub hl [0, 1, 2, 3] rfl) h
      · replace h := ite_f h c16
        refine lv_iload_n hx hb dX12_findGroups_77 rfl (lv_at hl 1 rfl) ?_
        refine lv_goto (tgt := 87) hx hb dX12_findGroups_78 (by decide) ?_
        exact tX12_findGroups_87 C hr29 hr47 v1 v2 v3 v1 v3 sg13 lg14 _ _ _ hw (lv_sub hl [0, 1, 2, 3] rfl) h
def LX12_findGroups_47 (r29 : (Int32 × Int32 × Sg × Lg) → Option (Int32 × Sg × Lg)) : (Int32 × Int32 × Int32 × Sg × Lg) → Option (Int32 × Sg × Lg) := loop (fun rec z => fX12_findGroups_47 r29 rec z.1 z.2.1 z.2.2.1 z.2.2.2.1 z.2.2.2.2)
theorem TX12_findGroups_47 (C : Cx p s m args meth c cX12_findGroups 4 RX12 wsX12_findGroups (some .int) D vwCl (tysM T) A false []) {ro : Int32} {so : Sg} {lo : Lg} {r29 : (Int32 × Int32 × Sg × Lg) → Option (Int32 × Sg × Lg)} (hr29 : ∀ (v1 : Int32) (v2 : Int32) (sg : Sg) (lg : Lg), r29 (v1, v2, sg, lg) = some (ro, so, lo) → ∀ (H : Heap) (locs : List Loc) (ls : Array Slot), WS ZM D vwCl T ad sg lg A s.heap H locs → lv_has ls 4 [(0, .ref (ad 0)), (1, .int v1), (2, .int v2)] → W p l e rmX12_findGroups s m args below meth c H locs 0 0 (MQ below (QI ZM D vwCl T (tysM T) A (fun z => ad = z) ro so lo) args s 0 0 A) (F0 m 29 ls [])) : ∀ (v1 : Int32) (v2 : Int32) (v3 : Int32) (sg : Sg) (lg : Lg), LX12_findGroups_47 r29 (v1, v2, v3, sg, lg) = some (ro, so, lo) → ∀ (H : Heap) (locs : List Loc) (ls : Array Slot), WS ZM D vwCl T ad sg lg A s.heap H locs → lv_has ls 4 [(0, .ref (ad 0)), (1, .int v1), (2, .int v2), (3, .int v3)] → W p l e rmX12_findGroups s m args below meth c H locs 0 0 (MQ below (QI ZM D vwCl T (tysM T) A (fun z => ad = z) ro so lo) args s 0 0 A) (F0 m 47 ls []) := by
  have key : ∀ z : (Int32 × Int32 × Int32 × Sg × Lg), LX12_findGroups_47 r29 z = some (ro, so, lo) → ∀ (H : Heap) (locs : List Loc) (ls : Array Slot), WS ZM D vwCl T ad z.2.2.2.1 z.2.2.2.2 A s.heap H locs → lv_has ls 4 [(0, .ref (ad 0)), (1, .int z.1), (2, .int z.2.1), (3, .int z.2.2.1)] → W p l e rmX12_findGroups s m args below meth c H locs 0 0 (MQ below (QI ZM D vwCl T (tysM T) A (fun z => ad = z) ro so lo) args s 0 0 A) (F0 m 47 ls []) := by
    intro z h
    unfold LX12_findGroups_47 at h
    exact loop_ind (fun rec z => fX12_findGroups_47 r29 rec z.1 z.2.1 z.2.2.1 z.2.2.2.1 z.2.2.2.2) (y := (ro, so, lo)) (P := fun z => ∀ (H : Heap) (locs : List Loc) (ls : Array Slot), WS ZM D vwCl T ad z.2.2.2.1 z.2.2.2.2 A s.heap H locs → lv_has ls 4 [(0, .ref (ad 0)), (1, .int z.1), (2, .int z.2.1), (3, .int z.2.2.1)] → W p l e rmX12_findGroups s m args below meth c H locs 0 0 (MQ below (QI ZM D vwCl T (tysM T) A (fun z => ad = z) ro so lo) args s 0 0 A) (F0 m 47 ls [])) (fun rec hrec z h H locs ls hw hl => tX12_findGroups_47 C hr29 (fun v1 v2 v3 sg lg => hrec (v1, v2, v3, sg, lg)) z.1 z.2.1 z.2.2.1 z.2.2.2.1 z.2.2.2.2 H locs ls hw hl h) z h
  exact fun v1 v2 v3 sg lg => key (v1, v2, v3, sg, lg)
def fX12_findGroups_29 (r29 : (Int32 × Int32 × Sg × Lg) → Option (Int32 × Sg × Lg)) (v1 : Int32) (v2 : Int32) (sg : Sg) (lg : Lg) : Option (Int32 × Sg × Lg) :=
  bnd3 (fX12_hens sg lg) (fun y1 sg2 lg3 => (if y1 ≤ v2 then some (v1, sg2, lg3) else bnd3 (fX12_isNext v2 sg2 lg3) (fun y6 sg7 lg8 => (if y6 = 0 then fX12_findGroups_99 r29 v1 v2 sg7 lg8 else LX12_findGroups_47 r29 (v1, v2, (0 : Int32), sg7, lg8)))))
set_option maxHeartbeats 4000000 in
set_option maxRecDepth 100000 in
theorem tX12_findGroups_29 (C : Cx p s m args meth c cX12_findGroups 4 RX12 wsX12_findGroups (some .int) D vwCl (tysM T) A false []) {ro : Int32} {so : Sg} {lo : Lg} {r29 : (Int32 × Int32 × Sg × Lg) → Option (Int32 × Sg × Lg)} (hr29 : ∀ (v1 : Int32) (v2 : Int32) (sg : Sg) (lg : Lg), r29 (v1, v2, sg, lg) = some (ro, so, lo) → ∀ (H : Heap) (locs : List Loc) (ls : Array Slot), WS ZM D vwCl T ad sg lg A s.heap H locs → lv_has ls 4 [(0, .ref (ad 0)), (1, .int v1), (2, .int v2)] → W p l e rmX12_findGroups s m args below meth c H locs 0 0 (MQ below (QI ZM D vwCl T (tysM T) A (fun z => ad = z) ro so lo) args s 0 0 A) (F0 m 29 ls [])) : ∀ (v1 : Int32) (v2 : Int32) (sg : Sg) (lg : Lg), ∀ (H : Heap) (locs : List Loc) (ls : Array Slot), WS ZM D vwCl T ad sg lg A s.heap H locs → lv_has ls 4 [(0, .ref (ad 0)), (1, .int v1), (2, .int v2)] → fX12_findGroups_29 r29 v1 v2 sg lg = some (ro, so, lo) → W p l e rmX12_findGroups s m args below meth c H locs 0 0 (MQ below (QI ZM D vwCl T (tysM T) A (fun z => ad = z) ro so lo) args s 0 0 A) (F0 m 29 ls []) := by
  obtain ⟨⟨hx, hb, hml, hown, hts⟩, hr, hlk, hK, hA, hsp⟩ := id C
  intro v1 v2 sg lg H locs ls hw hl h
  unfold fX12_findGroups_29 at h
  refine lv_iload_n hx hb dX12_findGroups_29 rfl (lv_at hl 2 rfl) ?_
  refine lv_aload_n hx hb dX12_findGroups_30 rfl (lv_at hl 0 rfl) ?_
  obtain ⟨y1, sg2, lg3, hq4, h2⟩ := bnd3_some h
  replace h := h2
  clear h2
  refine r_cVi (As := []) (rest := [.int v2]) C hw 0 (by decide) (ci := 12) rfl rfl (mX12_hens l D T ad  H.size sg lg hq4) (cwV 0 hts gX12_findGroups_X12_hens rfl rfl rfl (by decide +kernel) ⟨Nat.le_of_ble_eq_true rfl, Nat.le_of_ble_eq_true rfl⟩) rfl hl.1 rfl (Nat.le_of_ble_eq_true rfl) dX12_findGroups_31 ⟨Nat.le_of_ble_eq_true rfl, Nat.le_of_ble_eq_true rfl⟩ (fun ad' H locs hp hw => ?_)
  subst hp
  refine W.widen (k := 0) (n := 0) (by decide) (by decide) ?_
  refine lv_icmp_ge (tgt := 105) hx hb dX12_findGroups_34 (by decide) (fun c5 => ?_) (fun c5 => ?_)
  · replace h := ite_t h c5
    refine lv_iload_n hx hb dX12_findGroups_105 rfl (lv_at hl 1 rfl) ?_
    cases h
    exact r_iret C hw rfl (by decide) (by decide) dX12_findGroups_106
  · replace h := ite_f h c5
    refine lv_aload_n hx hb dX12_findGroups_37 rfl (lv_at hl 0 rfl) ?_
    refine lv_iload_n hx hb dX12_findGroups_38 rfl (lv_at hl 2 rfl) ?_
    obtain ⟨y6, sg7, lg8, hq9, h2⟩ := bnd3_some h
    replace h := h2
    clear h2
    refine r_cVi (As := [.int v2]) (rest := []) C hw 0 (by decide) (ci := 12) rfl rfl (mX12_isNext l D T ad  H.size v2 sg2 lg3 hq9) (cwV 1 hts gX12_findGroups_X12_isNext rfl rfl rfl (by decide +kernel) ⟨Nat.le_of_ble_eq_true rfl, Nat.le_of_ble_eq_true rfl⟩) rfl hl.1 rfl (Nat.le_of_ble_eq_true rfl) dX12_findGroups_39 ⟨Nat.le_of_ble_eq_true rfl, Nat.le_of_ble_eq_true rfl⟩ (fun ad' H locs hp hw => ?_)
    subst hp
    refine W.widen (k := 0) (n := 0) (by decide) (by decide) ?_
    refine lv_if_eq (tgt := 99) hx hb dX12_findGroups_42 (by decide) (fun c10 => ?_) (fun c10 => ?_)
    · replace h := ite_t h c10
      exact tX12_findGroups_99 C hr29 v1 v2 sg7 lg8 _ _ _ hw (lv_sub hl [0, 1, 2] rfl) h
    · replace h := ite_f h c10
      refine lv_iconst (v := (0 : Int32)) hx hb dX12_findGroups_45 (by decide) ?_
      refine lv_istore_n (lv' := [(3, .int (0 : Int32)), (0, .ref (ad 0)), (1, .int v1), (2, .int v2)]) hx hb dX12_findGroups_46 rfl hl (by decide) rfl (fun ls hl => ?_)
      exact TX12_findGroups_47 C hr29 v1 v2 (0 : Int32) sg7 lg8 h _ _ _ hw (lv_sub hl [1, 2, 3, 0] rfl)
def LX12_findGroups_29  : (Int32 × Int32 × Sg × Lg) → Option (Int32 × Sg × Lg) := loop (fun rec z => fX12_findGroups_29 rec z.1 z.2.1 z.2.2.1 z.2.2.2)
theorem TX12_findGroups_29 (C : Cx p s m args meth c cX12_findGroups 4 RX12 wsX12_findGroups (some .int) D vwCl (tysM T) A false []) {ro : Int32} {so : Sg} {lo : Lg}   : ∀ (v1 : Int32) (v2 : Int32) (sg : Sg) (lg : Lg), LX12_findGroups_29 (v1, v2, sg, lg) = some (ro, so, lo) → ∀ (H : Heap) (locs : List Loc) (ls : Array Slot), WS ZM D vwCl T ad sg lg A s.heap H locs → lv_has ls 4 [(0, .ref (ad 0)), (1, .int v1), (2, .int v2)] → W p l e rmX12_findGroups s m args below meth c H locs 0 0 (MQ below (QI ZM D vwCl T (tysM T) A (fun z => ad = z) ro so lo) args s 0 0 A) (F0 m 29 ls []) := by
  have key : ∀ z : (Int32 × Int32 × Sg × Lg), LX12_findGroups_29  z = some (ro, so, lo) → ∀ (H : Heap) (locs : List Loc) (ls : Array Slot), WS ZM D vwCl T ad z.2.2.1 z.2.2.2 A s.heap H locs → lv_has ls 4 [(0, .ref (ad 0)), (1, .int z.1), (2, .int z.2.1)] → W p l e rmX12_findGroups s m args below meth c H locs 0 0 (MQ below (QI ZM D vwCl T (tysM T) A (fun z => ad = z) ro so lo) args s 0 0 A) (F0 m 29 ls []) := by
    intro z h
    unfold LX12_findGroups_29 at h
    exact loop_ind (fun rec z => fX12_findGroups_29 rec z.1 z.2.1 z.2.2.1 z.2.2.2) (y := (ro, so, lo)) (P := fun z => ∀ (H : Heap) (locs : List Loc) (ls : Array Slot), WS ZM D vwCl T ad z.2.2.1 z.2.2.2 A s.heap H locs → lv_has ls 4 [(0, .ref (ad 0)), (1, .int z.1), (2, .int z.2.1)] → W p l e rmX12_findGroups s m args below meth c H locs 0 0 (MQ below (QI ZM D vwCl T (tysM T) A (fun z => ad = z) ro so lo) args s 0 0 A) (F0 m 29 ls [])) (fun rec hrec z h H locs ls hw hl => tX12_findGroups_29 C  (fun v1 v2 sg lg => hrec (v1, v2, sg, lg)) z.1 z.2.1 z.2.2.1 z.2.2.2 H locs ls hw hl h) z h
  exact fun v1 v2 sg lg => key (v1, v2, sg, lg)
def fX12_findGroups_6 (r6 : (Int32 × Sg × Lg) → Option (Int32 × Sg × Lg)) (v1 : Int32) (sg : Sg) (lg : Lg) : Option (Int32 × Sg × Lg) :=
  (if (12 : Int32) ≤ v1 then LX12_findGroups_29 ((0 : Int32), (0 : Int32), sg, lg) else gin v1 12 (lt (up2 sg 9 v1.toNatClampNeg (-1 : Int32)) (fun sg3 => lt (v1 + (1 : Int32)) (fun x4 => r6 (x4, sg3, lg)))))
set_option maxHeartbeats 4000000 in
set_option maxRecDepth 100000 in
theorem tX12_findGroups_6 (C : Cx p s m args meth c cX12_findGroups 4 RX12 wsX12_findGroups (some .int) D vwCl (tysM T) A false []) {ro : Int32} {so : Sg} {lo : Lg} {r6 : (Int32 × Sg × Lg) → Option (Int32 × Sg × Lg)} (hr6 : ∀ (v1 : Int32) (sg : Sg) (lg : Lg), r6 (v1, sg, lg) = some (ro, so, lo) → ∀ (H : Heap) (locs : List Loc) (ls : Array Slot), WS ZM D vwCl T ad sg lg A s.heap H locs → lv_has ls 4 [(0, .ref (ad 0)), (1, .int v1)] → W p l e rmX12_findGroups s m args below meth c H locs 0 0 (MQ below (QI ZM D vwCl T (tysM T) A (fun z => ad = z) ro so lo) args s 0 0 A) (F0 m 6 ls [])) : ∀ (v1 : Int32) (sg : Sg) (lg : Lg), ∀ (H : Heap) (locs : List Loc) (ls : Array Slot), WS ZM D vwCl T ad sg lg A s.heap H locs → lv_has ls 4 [(0, .ref (ad 0)), (1, .int v1)] → fX12_findGroups_6 r6 v1 sg lg = some (ro, so, lo) → W p l e rmX12_findGroups s m args below meth c H locs 0 0 (MQ below (QI ZM D vwCl T (tysM T) A (fun z => ad = z) ro so lo) args s 0 0 A) (F0 m 6 ls []) := by
  obtain ⟨⟨hx, hb, hml, hown, hts⟩, hr, hlk, hK, hA, hsp⟩ := id C
  intro v1 sg lg H locs ls hw hl h
  unfold fX12_findGroups_6 at h
  refine lv_iload_n hx hb dX12_findGroups_6 rfl (lv_at hl 1 rfl) ?_
  refine lv_bipush (v := (12 : Int32)) hx hb dX12_findGroups_7 (by decide) ?_
  refine lv_icmp_ge (tgt := 25) hx hb dX12_findGroups_9 (by decide) (fun c1 => ?_) (fun c1 => ?_)
  · replace h := ite_t h c1
    refine lv_iconst (v := (0 : Int32)) hx hb dX12_findGroups_25 (by decide) ?_
    refine lv_istore_n (lv' := [(1, .int (0 : Int32)), (0, .ref (ad 0))]) hx hb dX12_findGroups_26 rfl hl (by decide) rfl (fun ls hl => ?_)
    refine lv_iconst (v := (0 : Int32)) hx hb dX12_findGroups_27 (by decide) ?_
    refine lv_istore_n (lv' := [(2, .int (0 : Int32)), (1, .int (0 : Int32)), (0, .ref (ad 0))]) hx hb dX12_findGroups_28 rfl hl (by decide) rfl (fun ls hl => ?_)
    exact TX12_findGroups_29 C (0 : Int32) (0 : Int32) sg lg h _ _ _ hw (lv_sub hl [2, 1, 0] rfl)
  · replace h := ite_f h c1
    refine lv_aload_n hx hb dX12_findGroups_12 rfl (lv_at hl 0 rfl) ?_
    refine r_getR (ci := 12) (C := RX12) (U := TX12) (N := 18) hx hb hts kX12_findGroups_iX12 hown hK hw 0 (by decide) rfl rfl 13 (by decide) 9 rfl (hts _ kX12_findGroups_f37) (fun _ h9 => h9) dX12_findGroups_13 ?_
    refine lv_iload_n hx hb dX12_findGroups_16 rfl (lv_at hl 1 rfl) ?_
    refine lv_iconst (v := (-1 : Int32)) hx hb dX12_findGroups_17 (by decide) ?_
    have hi2 := (gin_some h).1
    replace h := (gin_some h).2
    refine r_iast ZM_ok hx hb hK hw 9 0 12 (by decide) rfl rfl rfl hi2 dX12_findGroups_18 (fun H locs sg3 esg3 hw => ?_)
    replace h := lt_get h sg3 esg3
    obtain ⟨x4, ex4⟩ : ∃ z : Int32, z = (v1 + (1 : Int32)) := ⟨_, rfl⟩
    replace h := lt_get h x4 ex4
    refine lv_iinc (v := x4) (lv' := [(1, .int x4), (0, .ref (ad 0))]) hx hb dX12_findGroups_19 hl (k := 1) rfl (by rw [ex4]; rfl) (by decide) rfl (fun ls hl => ?_)
    refine lv_goto (tgt := 6) hx hb dX12_findGroups_22 (by decide) ?_
    exact hr6 x4 sg3 lg h _ _ _ hw (lv_sub hl [1, 0] rfl)
def LX12_findGroups_6  : (Int32 × Sg × Lg) → Option (Int32 × Sg × Lg) := loop (fun rec z => fX12_findGroups_6 rec z.1 z.2.1 z.2.2)
theorem TX12_findGroups_6 (C : Cx p s m args meth c cX12_findGroups 4 RX12 wsX12_findGroups (some .int) D vwCl (tysM T) A false []) {ro : Int32} {so : Sg} {lo : Lg}   : ∀ (v1 : Int32) (sg : Sg) (lg : Lg), LX12_findGroups_6 (v1, sg, lg) = some (ro, so, lo) → ∀ (H : Heap) (locs : List Loc) (ls : Array Slot), WS ZM D vwCl T ad sg lg A s.heap H locs → lv_has ls 4 [(0, .ref (ad 0)), (1, .int v1)] → W p l e rmX12_findGroups s m args below meth c H locs 0 0 (MQ below (QI ZM D vwCl T (tysM T) A (fun z => ad = z) ro so lo) args s 0 0 A) (F0 m 6 ls []) := by
  have key : ∀ z : (Int32 × Sg × Lg), LX12_findGroups_6  z = some (ro, so, lo) → ∀ (H : Heap) (locs : List Loc) (ls : Array Slot), WS ZM D vwCl T ad z.2.1 z.2.2 A s.heap H locs → lv_has ls 4 [(0, .ref (ad 0)), (1, .int z.1)] → W p l e rmX12_findGroups s m args below meth c H locs 0 0 (MQ below (QI ZM D vwCl T (tysM T) A (fun z => ad = z) ro so lo) args s 0 0 A) (F0 m 6 ls []) := by
    intro z h
    unfold LX12_findGroups_6 at h
    exact loop_ind (fun rec z => fX12_findGroups_6 rec z.1 z.2.1 z.2.2) (y := (ro, so, lo)) (P := fun z => ∀ (H : Heap) (locs : List Loc) (ls : Array Slot), WS ZM D vwCl T ad z.2.1 z.2.2 A s.heap H locs → lv_has ls 4 [(0, .ref (ad 0)), (1, .int z.1)] → W p l e rmX12_findGroups s m args below meth c H locs 0 0 (MQ below (QI ZM D vwCl T (tysM T) A (fun z => ad = z) ro so lo) args s 0 0 A) (F0 m 6 ls [])) (fun rec hrec z h H locs ls hw hl => tX12_findGroups_6 C  (fun v1 sg lg => hrec (v1, sg, lg)) z.1 z.2.1 z.2.2 H locs ls hw hl h) z h
  exact fun v1 sg lg => key (v1, sg, lg)
def fX12_findGroups  (sg : Sg) (lg : Lg) : Option (Int32 × Sg × Lg) :=
  bnd2 (fX12_findReach sg lg) (fun sg1 lg2 => LX12_findGroups_6 ((0 : Int32), sg1, lg2))
set_option maxHeartbeats 4000000 in
set_option maxRecDepth 100000 in
theorem tX12_findGroups_0 (C : Cx p s m args meth c cX12_findGroups 4 RX12 wsX12_findGroups (some .int) D vwCl (tysM T) A false []) {ro : Int32} {so : Sg} {lo : Lg}   : ∀ (sg : Sg) (lg : Lg), ∀ (H : Heap) (locs : List Loc) (ls : Array Slot), WS ZM D vwCl T ad sg lg A s.heap H locs → lv_has ls 4 [(0, .ref (ad 0))] → fX12_findGroups sg lg = some (ro, so, lo) → W p l e rmX12_findGroups s m args below meth c H locs 0 0 (MQ below (QI ZM D vwCl T (tysM T) A (fun z => ad = z) ro so lo) args s 0 0 A) (F0 m 0 ls []) := by
  obtain ⟨⟨hx, hb, hml, hown, hts⟩, hr, hlk, hK, hA, hsp⟩ := id C
  intro sg lg H locs ls hw hl h
  unfold fX12_findGroups at h
  refine lv_aload_n hx hb dX12_findGroups_0 rfl (lv_at hl 0 rfl) ?_
  obtain ⟨sg1, lg2, hq3, h2⟩ := bnd2_some h
  replace h := h2
  clear h2
  refine r_cVv (As := []) (rest := []) C hw 0 (by decide) (ci := 12) rfl rfl (mX12_findReach l D T ad  H.size sg lg hq3) (cwV 0 hts gX12_findGroups_X12_findReach rfl rfl rfl (by decide +kernel) ⟨Nat.le_of_ble_eq_true rfl, Nat.le_of_ble_eq_true rfl⟩) rfl hl.1 rfl (Nat.le_of_ble_eq_true rfl) dX12_findGroups_1 ⟨Nat.le_of_ble_eq_true rfl, Nat.le_of_ble_eq_true rfl⟩ (fun ad' H locs hp hw => ?_)
  subst hp
  refine W.widen (k := 0) (n := 0) (by decide) (by decide) ?_
  refine lv_iconst (v := (0 : Int32)) hx hb dX12_findGroups_4 (by decide) ?_
  refine lv_istore_n (lv' := [(1, .int (0 : Int32)), (0, .ref (ad 0))]) hx hb dX12_findGroups_5 rfl hl (by decide) rfl (fun ls hl => ?_)
  exact TX12_findGroups_6 C (0 : Int32) sg1 lg2 h _ _ _ hw (lv_sub hl [1, 0] rfl)
theorem mX12_findGroups (l : Launch) (D : va_G) (T : Nat → ClassId) (ad : Nat → Nat)  (sz : Nat)   (sg : Sg) (lg : Lg) {ro : Int32} {so : Sg} {lo : Lg} (h : fX12_findGroups sg lg = some (ro, so, lo)) : Met l yX12_findGroups wsX12_findGroups rmX12_findGroups (PreZ ZM D vwCl T (tysM T) ad sg lg false [] [.ref (ad 0)] sz) (QI ZM D vwCl T (tysM T) (va_A (zwd ZM T ad sg lg) sz) (fun z => ad = z) ro so lo) 0 0 (va_A (zwd ZM T ad sg lg) sz) :=
  metZ [.ref (ad 0)] sz (by decide) rfl (Nat.le_of_ble_eq_true rfl) (fun p e s m below meth c ls C hw hl => tX12_findGroups_0 C sg lg _ _ _ hw hl h)
-- PeckYardModel.groups()J
def rmX12_groups : Room := { frames := 5, cells := 0, slots := 0, locals := 113 }
def fX12_groups  (sg : Sg) (lg : Lg) : Option (Int64 × Sg × Lg) :=
  bnd3 (fX12_findGroups sg lg) (fun y1 sg2 lg3 => some (y1.toInt64, sg2, lg3))
set_option maxHeartbeats 4000000 in
set_option maxRecDepth 100000 in
theorem tX12_groups_0 (C : Cx p s m args meth c cX12_groups 1 RX12 wsX12_groups (some .long) D vwCl (tysM T) A false []) {ro : Int64} {so : Sg} {lo : Lg}   : ∀ (sg : Sg) (lg : Lg), ∀ (H : Heap) (locs : List Loc) (ls : Array Slot), WS ZM D vwCl T ad sg lg A s.heap H locs → lv_has ls 1 [(0, .ref (ad 0))] → fX12_groups sg lg = some (ro, so, lo) → W p l e rmX12_groups s m args below meth c H locs 0 0 (MQ below (QL ZM D vwCl T (tysM T) A (fun z => ad = z) ro so lo) args s 0 0 A) (F0 m 0 ls []) := by
  obtain ⟨⟨hx, hb, hml, hown, hts⟩, hr, hlk, hK, hA, hsp⟩ := id C
  intro sg lg H locs ls hw hl h
  unfold fX12_groups at h
  refine lv_aload_n hx hb dX12_groups_0 rfl (lv_at hl 0 rfl) ?_
  obtain ⟨y1, sg2, lg3, hq4, h2⟩ := bnd3_some h
  replace h := h2
  clear h2
  refine r_cVi (As := []) (rest := []) C hw 0 (by decide) (ci := 12) rfl rfl (mX12_findGroups l D T ad  H.size sg lg hq4) (cwV 0 hts gX12_groups_X12_findGroups rfl rfl rfl (by decide +kernel) ⟨Nat.le_of_ble_eq_true rfl, Nat.le_of_ble_eq_true rfl⟩) rfl hl.1 rfl (Nat.le_of_ble_eq_true rfl) dX12_groups_1 ⟨Nat.le_of_ble_eq_true rfl, Nat.le_of_ble_eq_true rfl⟩ (fun ad' H locs hp hw => ?_)
  subst hp
  refine W.widen (k := 0) (n := 0) (by decide) (by decide) ?_
  refine lv_i2l (v := y1.toInt64) hx hb dX12_groups_4 rfl ?_
  cases h
  exact r_lret C hw rfl (by decide) (by decide) dX12_groups_5
theorem mX12_groups (l : Launch) (D : va_G) (T : Nat → ClassId) (ad : Nat → Nat)  (sz : Nat)   (sg : Sg) (lg : Lg) {ro : Int64} {so : Sg} {lo : Lg} (h : fX12_groups sg lg = some (ro, so, lo)) : Met l yX12_groups wsX12_groups rmX12_groups (PreZ ZM D vwCl T (tysM T) ad sg lg false [] [.ref (ad 0)] sz) (QL ZM D vwCl T (tysM T) (va_A (zwd ZM T ad sg lg) sz) (fun z => ad = z) ro so lo) 0 0 (va_A (zwd ZM T ad sg lg) sz) :=
  metZ [.ref (ad 0)] sz (by decide) rfl (Nat.le_of_ble_eq_true rfl) (fun p e s m below meth c ls C hw hl => tX12_groups_0 C sg lg _ _ _ hw hl h)
-- PeckYardModel.groupOf(I)J
def rmX12_groupOf : Room := { frames := 5, cells := 0, slots := 0, locals := 113 }
theorem kX12_groupOf_f37 : Cond.fieldLink RX12 37 "PeckYardModel" "group" "[I" ∈ wsX12_groupOf := by decide +kernel
theorem kX12_groupOf_iX12 : ∀ w ∈ u_ws RX12 TX12 18, w ∈ wsX12_groupOf := by decide +kernel
theorem kX12_groupOf_c112 : Cond.constantLong RX12 112 (-2000000005) ∈ wsX12_groupOf := by decide +kernel
theorem kX12_groupOf_c72 : Cond.constantLong RX12 72 (-2000000001) ∈ wsX12_groupOf := by decide +kernel
def fX12_groupOf  (v1 : Int32) (sg : Sg) (lg : Lg) : Option (Int64 × Sg × Lg) :=
  bnd3 (fX12_isHen v1 sg lg) (fun y1 sg2 lg3 => (if y1 = 0 then some ((-2000000001 : Int64), sg2, lg3) else bnd3 (fX12_counts v1 sg2 lg3) (fun y6 sg7 lg8 => (if y6 = 0 then some ((-2000000005 : Int64), sg7, lg8) else bnd3 (fX12_findGroups sg7 lg8) (fun y11 sg12 lg13 => gin v1 12 (some ((sg12 9 v1.toNatClampNeg).toInt64, sg12, lg13)))))))
set_option maxHeartbeats 4000000 in
set_option maxRecDepth 100000 in
theorem tX12_groupOf_0 (C : Cx p s m args meth c cX12_groupOf 2 RX12 wsX12_groupOf (some .long) D vwCl (tysM T) A false []) {ro : Int64} {so : Sg} {lo : Lg}   : ∀ (v1 : Int32) (sg : Sg) (lg : Lg), ∀ (H : Heap) (locs : List Loc) (ls : Array Slot), WS ZM D vwCl T ad sg lg A s.heap H locs → lv_has ls 2 [(0, .ref (ad 0)), (1, .int v1)] → fX12_groupOf v1 sg lg = some (ro, so, lo) → W p l e rmX12_groupOf s m args below meth c H locs 0 0 (MQ below (QL ZM D vwCl T (tysM T) A (fun z => ad = z) ro so lo) args s 0 0 A) (F0 m 0 ls []) := by
  obtain ⟨⟨hx, hb, hml, hown, hts⟩, hr, hlk, hK, hA, hsp⟩ := id C
  intro v1 sg lg H locs ls hw hl h
  unfold fX12_groupOf at h
  refine lv_aload_n hx hb dX12_groupOf_0 rfl (lv_at hl 0 rfl) ?_
  refine lv_iload_n hx hb dX12_groupOf_1 rfl (lv_at hl 1 rfl) ?_
  obtain ⟨y1, sg2, lg3, hq4, h2⟩ := bnd3_some h
  replace h := h2
  clear h2
  refine r_cVi (As := [.int v1]) (rest := []) C hw 0 (by decide) (ci := 12) rfl rfl (mX12_isHen l D T ad  H.size v1 sg lg hq4) (cwV 1 hts gX12_groupOf_X12_isHen rfl rfl rfl (by decide +kernel) ⟨Nat.le_of_ble_eq_true rfl, Nat.le_of_ble_eq_true rfl⟩) rfl hl.1 rfl (Nat.le_of_ble_eq_true rfl) dX12_groupOf_2 ⟨Nat.le_of_ble_eq_true rfl, Nat.le_of_ble_eq_true rfl⟩ (fun ad' H locs hp hw => ?_)
  subst hp
  refine W.widen (k := 0) (n := 0) (by decide) (by decide) ?_
  refine lv_if_ne (tgt := 12) hx hb dX12_groupOf_5 (by decide) (fun c5 => ?_) (fun c5 => ?_)
  · replace h := ite_f h c5
    refine lv_aload_n hx hb dX12_groupOf_12 rfl (lv_at hl 0 rfl) ?_
    refine lv_iload_n hx hb dX12_groupOf_13 rfl (lv_at hl 1 rfl) ?_
    obtain ⟨y6, sg7, lg8, hq9, h2⟩ := bnd3_some h
    replace h := h2
    clear h2
    refine r_cVi (As := [.int v1]) (rest := []) C hw 0 (by decide) (ci := 12) rfl rfl (mX12_counts l D T ad  H.size v1 sg2 lg3 hq9) (cwV 1 hts gX12_groupOf_X12_counts rfl rfl rfl (by decide +kernel) ⟨Nat.le_of_ble_eq_true rfl, Nat.le_of_ble_eq_true rfl⟩) rfl hl.1 rfl (Nat.le_of_ble_eq_true rfl) dX12_groupOf_14 ⟨Nat.le_of_ble_eq_true rfl, Nat.le_of_ble_eq_true rfl⟩ (fun ad' H locs hp hw => ?_)
    subst hp
    refine W.widen (k := 0) (n := 0) (by decide) (by decide) ?_
    refine lv_if_ne (tgt := 24) hx hb dX12_groupOf_17 (by decide) (fun c10 => ?_) (fun c10 => ?_)
    · replace h := ite_f h c10
      refine lv_aload_n hx hb dX12_groupOf_24 rfl (lv_at hl 0 rfl) ?_
      obtain ⟨y11, sg12, lg13, hq14, h2⟩ := bnd3_some h
      replace h := h2
      clear h2
      refine r_cVi (As := []) (rest := []) C hw 0 (by decide) (ci := 12) rfl rfl (mX12_findGroups l D T ad  H.size sg7 lg8 hq14) (cwV 0 hts gX12_groupOf_X12_findGroups rfl rfl rfl (by decide +kernel) ⟨Nat.le_of_ble_eq_true rfl, Nat.le_of_ble_eq_true rfl⟩) rfl hl.1 rfl (Nat.le_of_ble_eq_true rfl) dX12_groupOf_25 ⟨Nat.le_of_ble_eq_true rfl, Nat.le_of_ble_eq_true rfl⟩ (fun ad' H locs hp hw => ?_)
      subst hp
      refine W.widen (k := 0) (n := 0) (by decide) (by decide) ?_
      refine lv_pop hx hb dX12_groupOf_28 rfl ?_
      refine lv_aload_n hx hb dX12_groupOf_29 rfl (lv_at hl 0 rfl) ?_
      refine r_getR (ci := 12) (C := RX12) (U := TX12) (N := 18) hx hb hts kX12_groupOf_iX12 hown hK hw 0 (by decide) rfl rfl 13 (by decide) 9 rfl (hts _ kX12_groupOf_f37) (fun _ h9 => h9) dX12_groupOf_30 ?_
      refine lv_iload_n hx hb dX12_groupOf_33 rfl (lv_at hl 1 rfl) ?_
      have hi15 := (gin_some h).1
      replace h := (gin_some h).2
      refine r_iald hx hb hK hw 9 0 12 (by decide) rfl rfl rfl hi15 dX12_groupOf_34 ?_
      refine lv_i2l (v := (sg12 9 v1.toNatClampNeg).toInt64) hx hb dX12_groupOf_35 rfl ?_
      cases h
      exact r_lret C hw rfl (by decide) (by decide) dX12_groupOf_36
    · replace h := ite_t h c10
      refine lv_ldc2 hx hb hown (hts _ kX12_groupOf_c112) dX12_groupOf_20 ?_
      cases h
      exact r_lret C hw rfl (by decide) (by decide) dX12_groupOf_23
  · replace h := ite_t h c5
    refine lv_ldc2 hx hb hown (hts _ kX12_groupOf_c72) dX12_groupOf_8 ?_
    cases h
    exact r_lret C hw rfl (by decide) (by decide) dX12_groupOf_11
theorem mX12_groupOf (l : Launch) (D : va_G) (T : Nat → ClassId) (ad : Nat → Nat)  (sz : Nat)   (v1 : Int32) (sg : Sg) (lg : Lg) {ro : Int64} {so : Sg} {lo : Lg} (h : fX12_groupOf v1 sg lg = some (ro, so, lo)) : Met l yX12_groupOf wsX12_groupOf rmX12_groupOf (PreZ ZM D vwCl T (tysM T) ad sg lg false [] [.ref (ad 0), .int v1] sz) (QL ZM D vwCl T (tysM T) (va_A (zwd ZM T ad sg lg) sz) (fun z => ad = z) ro so lo) 0 0 (va_A (zwd ZM T ad sg lg) sz) :=
  metZ [.ref (ad 0), .int v1] sz (by decide) rfl (Nat.le_of_ble_eq_true rfl) (fun p e s m below meth c ls C hw hl => tX12_groupOf_0 C v1 sg lg _ _ _ hw hl h)
-- PeckYardModel.closes(II)Z
def rmX12_closes (d : Nat) : Room := { frames := d + 1, cells := 0, slots := 0, locals := 26 * d + 20 }
theorem kX12_closes_f43 : Cond.fieldLink RX12 43 "PeckYardModel" "row" "[I" ∈ wsX12_closes := by decide +kernel
theorem kX12_closes_iX12 : ∀ w ∈ u_ws RX12 TX12 18, w ∈ wsX12_closes := by decide +kernel
theorem kX12_closes_f40 : Cond.fieldLink RX12 40 "PeckYardModel" "left" "[I" ∈ wsX12_closes := by decide +kernel
def fX12_closes_141 (rc : Int32 × Int32 × Sg × Lg → Option (Int32 × Sg × Lg)) (r49 : (Int32 × Int32 × Int32 × Int32 × Sg × Lg) → Option (Int32 × Sg × Lg)) (v1 : Int32) (v2 : Int32) (v3 : Int32) (v4 : Int32) (sg : Sg) (lg : Lg) : Option (Int32 × Sg × Lg) :=
  lt (v4 + (1 : Int32)) (fun x1 => r49 (v1, v2, v3, x1, sg, lg))
set_option maxHeartbeats 4000000 in
set_option maxRecDepth 100000 in
theorem tX12_closes_141 (C : Cx p s m args meth c cX12_closes 7 RX12 wsX12_closes (some .boolean) D vwCl (tysM T) A false []) {dd : Nat} {rc : Int32 × Int32 × Sg × Lg → Option (Int32 × Sg × Lg)} (hrc : ∀ (ad : Nat → Nat) (sz : Nat) (v1 : Int32) (v2 : Int32) (sg : Sg) (lg : Lg) (ro : Int32) (so : Sg) (lo : Lg), rc (v1, v2, sg, lg) = some (ro, so, lo) → Met l yX12_closes wsX12_closes (rmX12_closes dd) (PreZ ZM D vwCl T (tysM T) ad sg lg false [] [.ref (ad 0), .int v1, .int v2] sz) (QI ZM D vwCl T (tysM T) (va_A (zwd ZM T ad sg lg) sz) (fun z => ad = z) ro so lo) 0 0 (va_A (zwd ZM T ad sg lg) sz)) {ro : Int32} {so : Sg} {lo : Lg} {r49 : (Int32 × Int32 × Int32 × Int32 × Sg × Lg) → Option (Int32 × Sg × Lg)} (hr49 : ∀ (v1 : Int32) (v2 : Int32) (v3 : Int32) (v4 : Int32) (sg : Sg) (lg : Lg), r49 (v1, v2, v3, v4, sg, lg) = some (ro, so, lo) → ∀ (H : Heap) (locs : List Loc) (ls : Array Slot), WS ZM D vwCl T ad sg lg A s.heap H locs → lv_has ls 7 [(0, .ref (ad 0)), (1, .int v1), (2, .int v2), (3, .int v3), (4, .int v4)] → W p l e (rmX12_closes (dd + 1)) s m args below meth c H locs 0 0 (MQ below (QI ZM D vwCl T (tysM T) A (fun z => ad = z) ro so lo) args s 0 0 A) (F0 m 49 ls [])) : ∀ (v1 : Int32) (v2 : Int32) (v3 : Int32) (v4 : Int32) (sg : Sg) (lg : Lg), ∀ (H : Heap) (locs : List Loc) (ls : Array Slot), WS ZM D vwCl T ad sg lg A s.heap H locs → lv_has ls 7 [(0, .ref (ad 0)), (1, .int v1), (2, .int v2), (3, .int v3), (4, .int v4)] → fX12_closes_141 rc r49 v1 v2 v3 v4 sg lg = some (ro, so, lo) → W p l e (rmX12_closes (dd + 1)) s m args below meth c H locs 0 0 (MQ below (QI ZM D vwCl T (tysM T) A (fun z => ad = z) ro so lo) args s 0 0 A) (F0 m 141 ls []) := by
  obtain ⟨⟨hx, hb, hml, hown, hts⟩, hr, hlk, hK, hA, hsp⟩ := id C
  intro v1 v2 v3 v4 sg lg H locs ls hw hl h
  unfold fX12_closes_141 at h
  obtain ⟨x1, ex1⟩ : ∃ z : Int32, z = (v4 + (1 : Int32)) := ⟨_, rfl⟩
  replace h := lt_get h x1 ex1
  refine lv_iinc (v := x1) (lv' := [(4, .int x1), (0, .ref (ad 0)), (1, .int v1), (2, .int v2), (3, .int v3)]) hx hb dX12_closes_141 hl (k := 4) rfl (by rw [ex1]; rfl) (by decide) rfl (fun ls hl => ?_)
  refine lv_goto (tgt := 49) hx hb dX12_closes_144 (by decide) ?_
  exact hr49 v1 v2 v3 x1 sg lg h _ _ _ hw (lv_sub hl [1, 2, 3, 4, 0] rfl)
def fX12_closes_92 (rc : Int32 × Int32 × Sg × Lg → Option (Int32 × Sg × Lg)) (r49 : (Int32 × Int32 × Int32 × Int32 × Sg × Lg) → Option (Int32 × Sg × Lg)) (r64 : (Int32 × Int32 × Int32 × Int32 × Int32 × Int32 × Sg × Lg) → Option (Int32 × Sg × Lg)) (v1 : Int32) (v2 : Int32) (v3 : Int32) (v4 : Int32) (v6 : Int32) (w0 : Int32) (sg : Sg) (lg : Lg) : Option (Int32 × Sg × Lg) :=
  lt (v6 + (1 : Int32)) (fun x1 => r64 (v1, v2, v3, v4, w0, x1, sg, lg))
set_option maxHeartbeats 4000000 in
set_option maxRecDepth 100000 in
theorem tX12_closes_92 (C : Cx p s m args meth c cX12_closes 7 RX12 wsX12_closes (some .boolean) D vwCl (tysM T) A false []) {dd : Nat} {rc : Int32 × Int32 × Sg × Lg → Option (Int32 × Sg × Lg)} (hrc : ∀ (ad : Nat → Nat) (sz : Nat) (v1 : Int32) (v2 : Int32) (sg : Sg) (lg : Lg) (ro : Int32) (so : Sg) (lo : Lg), rc (v1, v2, sg, lg) = some (ro, so, lo) → Met l yX12_closes wsX12_closes (rmX12_closes dd) (PreZ ZM D vwCl T (tysM T) ad sg lg false [] [.ref (ad 0), .int v1, .int v2] sz) (QI ZM D vwCl T (tysM T) (va_A (zwd ZM T ad sg lg) sz) (fun z => ad = z) ro so lo) 0 0 (va_A (zwd ZM T ad sg lg) sz)) {ro : Int32} {so : Sg} {lo : Lg} {r49 : (Int32 × Int32 × Int32 × Int32 × Sg × Lg) → Option (Int32 × Sg × Lg)} {r64 : (Int32 × Int32 × Int32 × Int32 × Int32 × Int32 × Sg × Lg) → Option (Int32 × Sg × Lg)} (hr49 : ∀ (v1 : Int32) (v2 : Int32) (v3 : Int32) (v4 : Int32) (sg : Sg) (lg : Lg), r49 (v1, v2, v3, v4, sg, lg) = some (ro, so, lo) → ∀ (H : Heap) (locs : List Loc) (ls : Array Slot), WS ZM D vwCl T ad sg lg A s.heap H locs → lv_has ls 7 [(0, .ref (ad 0)), (1, .int v1), (2, .int v2), (3, .int v3), (4, .int v4)] → W p l e (rmX12_closes (dd + 1)) s m args below meth c H locs 0 0 (MQ below (QI ZM D vwCl T (tysM T) A (fun z => ad = z) ro so lo) args s 0 0 A) (F0 m 49 ls [])) (hr64 : ∀ (v1 : Int32) (v2 : Int32) (v3 : Int32) (v4 : Int32) (v5 : Int32) (v6 : Int32) (sg : Sg) (lg : Lg), r64 (v1, v2, v3, v4, v5, v6, sg, lg) = some (ro, so, lo) → ∀ (H : Heap) (locs : List Loc) (ls : Array Slot), WS ZM D vwCl T ad sg lg A s.heap H locs → lv_has ls 7 [(0, .ref (ad 0)), (1, .int v1), (2, .int v2), (3, .int v3), (4, .int v4), (5, .int v5), (6, .int v6)] → W p l e (rmX12_closes (dd + 1)) s m args below meth c H locs 0 0 (MQ below (QI ZM D vwCl T (tysM T) A (fun z => ad = z) ro so lo) args s 0 0 A) (F0 m 64 ls [])) : ∀ (v1 : Int32) (v2 : Int32) (v3 : Int32) (v4 : Int32) (v6 : Int32) (w0 : Int32) (sg : Sg) (lg : Lg), ∀ (H : Heap) (locs : List Loc) (ls : Array Slot), WS ZM D vwCl T ad sg lg A s.heap H locs → lv_has ls 7 [(0, .ref (ad 0)), (1, .int v1), (2, .int v2), (3, .int v3), (4, .int v4), (6, .int v6)] → fX12_closes_92 rc r49 r64 v1 v2 v3 v4 v6 w0 sg lg = some (ro, so, lo) → W p l e (rmX12_closes (dd + 1)) s m args below meth c H locs 0 0 (MQ below (QI ZM D vwCl T (tysM T) A (fun z => ad = z) ro so lo) args s 0 0 A) (F0 m 92 ls [.int w0]) := by
  obtain ⟨⟨hx, hb, hml, hown, hts⟩, hr, hlk, hK, hA, hsp⟩ := id C
  intro v1 v2 v3 v4 v6 w0 sg lg H locs ls hw hl h
  unfold fX12_closes_92 at h
  refine lv_istore (lv' := [(5, .int w0), (0, .ref (ad 0)), (1, .int v1), (2, .int v2), (3, .int v3), (4, .int v4), (6, .int v6)]) hx hb dX12_closes_92 hl (by decide) rfl (fun ls hl => ?_)
  obtain ⟨x1, ex1⟩ : ∃ z : Int32, z = (v6 + (1 : Int32)) := ⟨_, rfl⟩
  replace h := lt_get h x1 ex1
  refine lv_iinc (v := x1) (lv' := [(6, .int x1), (5, .int w0), (0, .ref (ad 0)), (1, .int v1), (2, .int v2), (3, .int v3), (4, .int v4)]) hx hb dX12_closes_94 hl (k := 6) rfl (by rw [ex1]; rfl) (by decide) rfl (fun ls hl => ?_)
  refine lv_goto (tgt := 64) hx hb dX12_closes_97 (by decide) ?_
  exact hr64 v1 v2 v3 v4 w0 x1 sg lg h _ _ _ hw (lv_sub hl [2, 3, 4, 5, 6, 1, 0] rfl)
def fX12_closes_87 (rc : Int32 × Int32 × Sg × Lg → Option (Int32 × Sg × Lg)) (r49 : (Int32 × Int32 × Int32 × Int32 × Sg × Lg) → Option (Int32 × Sg × Lg)) (r64 : (Int32 × Int32 × Int32 × Int32 × Int32 × Int32 × Sg × Lg) → Option (Int32 × Sg × Lg)) (v1 : Int32) (v2 : Int32) (v3 : Int32) (v4 : Int32) (v6 : Int32) (sg : Sg) (lg : Lg) : Option (Int32 × Sg × Lg) :=
  fX12_closes_92 rc r49 r64 v1 v2 v3 v4 v6 (1 : Int32) sg lg
set_option maxHeartbeats 4000000 in
set_option maxRecDepth 100000 in
theorem tX12_closes_87 (C : Cx p s m args meth c cX12_closes 7 RX12 wsX12_closes (some .boolean) D vwCl (tysM T) A false []) {dd : Nat} {rc : Int32 × Int32 × Sg × Lg → Option (Int32 × Sg × Lg)} (hrc : ∀ (ad : Nat → Nat) (sz : Nat) (v1 : Int32) (v2 : Int32) (sg : Sg) (lg : Lg) (ro : Int32) (so : Sg) (lo : Lg), rc (v1, v2, sg, lg) = some (ro, so, lo) → Met l yX12_closes wsX12_closes (rmX12_closes dd) (PreZ ZM D vwCl T (tysM T) ad sg lg false [] [.ref (ad 0), .int v1, .int v2] sz) (QI ZM D vwCl T (tysM T) (va_A (zwd ZM T ad sg lg) sz) (fun z => ad = z) ro so lo) 0 0 (va_A (zwd ZM T ad sg lg) sz)) {ro : Int32} {so : Sg} {lo : Lg} {r49 : (Int32 × Int32 × Int32 × Int32 × Sg × Lg) → Option (Int32 × Sg × Lg)} {r64 : (Int32 × Int32 × Int32 × Int32 × Int32 × Int32 × Sg × Lg) → Option (Int32 × Sg × Lg)} (hr49 : ∀ (v1 : Int32) (v2 : Int32) (v3 : Int32) (v4 : Int32) (sg : Sg) (lg : Lg), r49 (v1, v2, v3, v4, sg, lg) = some (ro, so, lo) → ∀ (H : Heap) (locs : List Loc) (ls : Array Slot), WS ZM D vwCl T ad sg lg A s.heap H locs → lv_has ls 7 [(0, .ref (ad 0)), (1, .int v1), (2, .int v2), (3, .int v3), (4, .int v4)] → W p l e (rmX12_closes (dd + 1)) s m args below meth c H locs 0 0 (MQ below (QI ZM D vwCl T (tysM T) A (fun z => ad = z) ro so lo) args s 0 0 A) (F0 m 49 ls [])) (hr64 : ∀ (v1 : Int32) (v2 : Int32) (v3 : Int32) (v4 : Int32) (v5 : Int32) (v6 : Int32) (sg : Sg) (lg : Lg), r64 (v1, v2, v3, v4, v5, v6, sg, lg) = some (ro, so, lo) → ∀ (H : Heap) (locs : List Loc) (ls : Array Slot), WS ZM D vwCl T ad sg lg A s.heap H locs → lv_has ls 7 [(0, .ref (ad 0)), (1, .int v1), (2, .int v2), (3, .int v3), (4, .int v4), (5, .int v5), (6, .int v6)] → W p l e (rmX12_closes (dd + 1)) s m args below meth c H locs 0 0 (MQ below (QI ZM D vwCl T (tysM T) A (fun z => ad = z) ro so lo) args s 0 0 A) (F0 m 64 ls [])) : ∀ (v1 : Int32) (v2 : Int32) (v3 : Int32) (v4 : Int32) (v6 : Int32) (sg : Sg) (lg : Lg), ∀ (H : Heap) (locs : List Loc) (ls : Array Slot), WS ZM D vwCl T ad sg lg A s.heap H locs → lv_has ls 7 [(0, .ref (ad 0)), (1, .int v1), (2, .int v2), (3, .int v3), (4, .int v4), (6, .int v6)] → fX12_closes_87 rc r49 r64 v1 v2 v3 v4 v6 sg lg = some (ro, so, lo) → W p l e (rmX12_closes (dd + 1)) s m args below meth c H locs 0 0 (MQ below (QI ZM D vwCl T (tysM T) A (fun z => ad = z) ro so lo) args s 0 0 A) (F0 m 87 ls []) := by
  obtain ⟨⟨hx, hb, hml, hown, hts⟩, hr, hlk, hK, hA, hsp⟩ := id C
  intro v1 v2 v3 v4 v6 sg lg H locs ls hw hl h
  unfold fX12_closes_87 at h
  refine lv_iconst (v := (1 : Int32)) hx hb dX12_closes_87 (by decide) ?_
  refine lv_goto (tgt := 92) hx hb dX12_closes_88 (by decide) ?_
  exact tX12_closes_92 C hrc hr49 hr64 v1 v2 v3 v4 v6 (1 : Int32) sg lg _ _ _ hw (lv_sub hl [0, 1, 2, 3, 4, 5] rfl) h
def fX12_closes_64 (rc : Int32 × Int32 × Sg × Lg → Option (Int32 × Sg × Lg)) (r49 : (Int32 × Int32 × Int32 × Int32 × Sg × Lg) → Option (Int32 × Sg × Lg)) (r64 : (Int32 × Int32 × Int32 × Int32 × Int32 × Int32 × Sg × Lg) → Option (Int32 × Sg × Lg)) (v1 : Int32) (v2 : Int32) (v3 : Int32) (v4 : Int32) (v5 : Int32) (v6 : Int32) (sg : Sg) (lg : Lg) : Option (Int32 × Sg × Lg) :=
  (if v1 ≤ v6 then (if v5 = 0 then lt (((12 : Int32) * v3) + v4) (fun x3 => gin x3 144 ((if (sg 10 x3.toNatClampNeg) ≤ 0 then fX12_closes_141 rc r49 v1 v2 v3 v4 sg lg else gin v1 12 (lt (up2 sg 11 v1.toNatClampNeg v4) (fun sg7 => bnd3 (rc ((v1 + (1 : Int32)), v2, sg7, lg)) (fun y8 sg9 lg10 => (if y8 = 0 then fX12_closes_141 rc r49 v1 v2 v3 v4 sg9 lg10 else some ((1 : Int32), sg9, lg10)))))))) else fX12_closes_141 rc r49 v1 v2 v3 v4 sg lg) else (if v5 = 0 then gin v6 12 ((if (sg 11 v6.toNatClampNeg) = v4 then fX12_closes_87 rc r49 r64 v1 v2 v3 v4 v6 sg lg else fX12_closes_92 rc r49 r64 v1 v2 v3 v4 v6 (0 : Int32) sg lg)) else fX12_closes_87 rc r49 r64 v1 v2 v3 v4 v6 sg lg))
set_option maxHeartbeats 4000000 in
set_option maxRecDepth 100000 in
theorem tX12_closes_64 (C : Cx p s m args meth c cX12_closes 7 RX12 wsX12_closes (some .boolean) D vwCl (tysM T) A false []) {dd : Nat} {rc : Int32 × Int32 × Sg × Lg → Option (Int32 × Sg × Lg)} (hrc : ∀ (ad : Nat → Nat) (sz : Nat) (v1 : Int32) (v2 : Int32) (sg : Sg) (lg : Lg) (ro : Int32) (so : Sg) (lo : Lg), rc (v1, v2, sg, lg) = some (ro, so, lo) → Met l yX12_closes wsX12_closes (rmX12_closes dd) (PreZ ZM D vwCl T (tysM T) ad sg lg false [] [.ref (ad 0), .int v1, .int v2] sz) (QI ZM D vwCl T (tysM T) (va_A (zwd ZM T ad sg lg) sz) (fun z => ad = z) ro so lo) 0 0 (va_A (zwd ZM T ad sg lg) sz)) {ro : Int32} {so : Sg} {lo : Lg} {r49 : (Int32 × Int32 × Int32 × Int32 × Sg × Lg) → Option (Int32 × Sg × Lg)} {r64 : (Int32 × Int32 × Int32 × Int32 × Int32 × Int32 × Sg × Lg) → Option (Int32 × Sg × Lg)} (hr49 : ∀ (v1 : Int32) (v2 : Int32) (v3 : Int32) (v4 : Int32) (sg : Sg) (lg : Lg), r49 (v1, v2, v3, v4, sg, lg) = some (ro, so, lo) → ∀ (H : Heap) (locs : List Loc) (ls : Array Slot), WS ZM D vwCl T ad sg lg A s.heap H locs → lv_has ls 7 [(0, .ref (ad 0)), (1, .int v1), (2, .int v2), (3, .int v3), (4, .int v4)] → W p l e (rmX12_closes (dd + 1)) s m args below meth c H locs 0 0 (MQ below (QI ZM D vwCl T (tysM T) A (fun z => ad = z) ro so lo) args s 0 0 A) (F0 m 49 ls [])) (hr64 : ∀ (v1 : Int32) (v2 : Int32) (v3 : Int32) (v4 : Int32) (v5 : Int32) (v6 : Int32) (sg : Sg) (lg : Lg), r64 (v1, v2, v3, v4, v5, v6, sg, lg) = some (ro, so, lo) → ∀ (H : Heap) (locs : List Loc) (ls : Array Slot), WS ZM D vwCl T ad sg lg A s.heap H locs → lv_has ls 7 [(0, .ref (ad 0)), (1, .int v1), (2, .int v2), (3, .int v3), (4, .int v4), (5, .int v5), (6, .int v6)] → W p l e (rmX12_closes (dd + 1)) s m args below meth c H locs 0 0 (MQ below (QI ZM D vwCl T (tysM T) A (fun z => ad = z) ro so lo) args s 0 0 A) (F0 m 64 ls [])) : ∀ (v1 : Int32) (v2 : Int32) (v3 : Int32) (v4 : Int32) (v5 : Int32) (v6 : Int32) (sg : Sg) (lg : Lg), ∀ (H : Heap) (locs : List Loc) (ls : Array Slot), WS ZM D vwCl T ad sg lg A s.heap H locs → lv_has ls 7 [(0, .ref (ad 0)), (1, .int v1), (2, .int v2), (3, .int v3), (4, .int v4), (5, .int v5), (6, .int v6)] → fX12_closes_64 rc r49 r64 v1 v2 v3 v4 v5 v6 sg lg = some (ro, so, lo) → W p l e (rmX12_closes (dd + 1)) s m args below meth c H locs 0 0 (MQ below (QI ZM D vwCl T (tysM T) A (fun z => ad = z) ro so lo) args s 0 0 A) (F0 m 64 ls []) := by
  obtain ⟨⟨hx, hb, hml, hown, hts⟩, hr, hlk, hK, hA, hsp⟩ := id C
  intro v1 v2 v3 v4 v5 v6 sg lg H locs ls hw hl h
  unfold fX12_closes_64 at h
  refine lv_iload hx hb dX12_closes_64 (lv_at hl 6 rfl) ?_
  refine lv_iload_n hx hb dX12_closes_66 rfl (lv_at hl 1 rfl) ?_
  refine lv_icmp_ge (tgt := 100) hx hb dX12_closes_67 (by decide) (fun c1 => ?_) (fun c1 => ?_)
  · replace h := ite_t h c1
    refine lv_iload hx hb dX12_closes_100 (lv_at hl 5 rfl) ?_
    refine lv_if_ne (tgt := 141) hx hb dX12_closes_102 (by decide) (fun c2 => ?_) (fun c2 => ?_)
    · replace h := ite_f h c2
      exact tX12_closes_141 C hrc hr49 v1 v2 v3 v4 sg lg _ _ _ hw (lv_sub hl [0, 1, 2, 3, 4] rfl) h
    · replace h := ite_t h c2
      refine lv_aload_n hx hb dX12_closes_105 rfl (lv_at hl 0 rfl) ?_
      refine r_getR (ci := 12) (C := RX12) (U := TX12) (N := 18) hx hb hts kX12_closes_iX12 hown hK hw 0 (by decide) rfl rfl 14 (by decide) 10 rfl (hts _ kX12_closes_f40) (fun _ h9 => h9) dX12_closes_106 ?_
      refine lv_bipush (v := (12 : Int32)) hx hb dX12_closes_109 (by decide) ?_
      refine lv_iload_n hx hb dX12_closes_111 rfl (lv_at hl 3 rfl) ?_
      refine lv_imul hx hb dX12_closes_112 ?_
      refine lv_iload hx hb dX12_closes_113 (lv_at hl 4 rfl) ?_
      refine lv_iadd hx hb dX12_closes_115 ?_
      refine lv_topi (fun x3 ex3 => ?_)
      replace h := lt_get h x3 ex3
      have hi4 := (gin_some h).1
      replace h := (gin_some h).2
      refine r_iald hx hb hK hw 10 0 144 (by decide) rfl rfl rfl hi4 dX12_closes_116 ?_
      refine lv_if_le (tgt := 141) hx hb dX12_closes_117 (by decide) (fun c5 => ?_) (fun c5 => ?_)
      · replace h := ite_t h c5
        exact tX12_closes_141 C hrc hr49 v1 v2 v3 v4 sg lg _ _ _ hw (lv_sub hl [0, 1, 2, 3, 4] rfl) h
      · replace h := ite_f h c5
        refine lv_aload_n hx hb dX12_closes_120 rfl (lv_at hl 0 rfl) ?_
        refine r_getR (ci := 12) (C := RX12) (U := TX12) (N := 18) hx hb hts kX12_closes_iX12 hown hK hw 0 (by decide) rfl rfl 15 (by decide) 11 rfl (hts _ kX12_closes_f43) (fun _ h9 => h9) dX12_closes_121 ?_
        refine lv_iload_n hx hb dX12_closes_124 rfl (lv_at hl 1 rfl) ?_
        refine lv_iload hx hb dX12_closes_125 (lv_at hl 4 rfl) ?_
        have hi6 := (gin_some h).1
        replace h := (gin_some h).2
        refine r_iast ZM_ok hx hb hK hw 11 0 12 (by decide) rfl rfl rfl hi6 dX12_closes_127 (fun H locs sg7 esg7 hw => ?_)
        replace h := lt_get h sg7 esg7
        refine lv_aload_n hx hb dX12_closes_128 rfl (lv_at hl 0 rfl) ?_
        refine lv_iload_n hx hb dX12_closes_129 rfl (lv_at hl 1 rfl) ?_
        refine lv_iconst (v := (1 : Int32)) hx hb dX12_closes_130 (by decide) ?_
        refine lv_iadd hx hb dX12_closes_131 ?_
        refine lv_iload_n hx hb dX12_closes_132 rfl (lv_at hl 2 rfl) ?_
        obtain ⟨y8, sg9, lg10, hq11, h2⟩ := bnd3_some h
        replace h := h2
        clear h2
        refine r_cVi (As := [.int (v1 + (1 : Int32)), .int v2]) (rest := []) C hw 0 (by decide) (ci := 12) rfl rfl (hrc ad H.size (v1 + (1 : Int32)) v2 sg7 lg _ _ _ hq11) (cwV 2 hts gX12_closes_X12_closes rfl rfl rfl (by decide +kernel) ⟨by simp only [rmX12_closes, rmX12_hens]; omega, by simp only [rmX12_closes, rmX12_hens]; omega⟩) rfl hl.1 rfl (Nat.le_of_ble_eq_true rfl) dX12_closes_133 ⟨by simp only [rmX12_closes, rmX12_hens]; omega, by simp only [rmX12_closes, rmX12_hens]; omega⟩ (fun ad' H locs hp hw => ?_)
        subst hp
        refine W.widen (k := 0) (n := 0) (by decide) (by decide) ?_
        refine lv_if_eq (tgt := 141) hx hb dX12_closes_136 (by decide) (fun c12 => ?_) (fun c12 => ?_)
        · replace h := ite_t h c12
          exact tX12_closes_141 C hrc hr49 v1 v2 v3 v4 sg9 lg10 _ _ _ hw (lv_sub hl [0, 1, 2, 3, 4] rfl) h
        · replace h := ite_f h c12
          refine lv_iconst (v := (1 : Int32)) hx hb dX12_closes_139 (by decide) ?_
          cases h
          exact r_zret C hw rfl (by decide) (by decide) (by decide) dX12_closes_140
  · replace h := ite_f h c1
    refine lv_iload hx hb dX12_closes_70 (lv_at hl 5 rfl) ?_
    refine lv_if_ne (tgt := 87) hx hb dX12_closes_72 (by decide) (fun c13 => ?_) (fun c13 => ?_)
    · replace h := ite_f h c13
      exact tX12_closes_87 C hrc hr49 hr64 v1 v2 v3 v4 v6 sg lg _ _ _ hw (lv_sub hl [0, 1, 2, 3, 4, 6] rfl) h
    · replace h := ite_t h c13
      refine lv_aload_n hx hb dX12_closes_75 rfl (lv_at hl 0 rfl) ?_
      refine r_getR (ci := 12) (C := RX12) (U := TX12) (N := 18) hx hb hts kX12_closes_iX12 hown hK hw 0 (by decide) rfl rfl 15 (by decide) 11 rfl (hts _ kX12_closes_f43) (fun _ h9 => h9) dX12_closes_76 ?_
      refine lv_iload hx hb dX12_closes_79 (lv_at hl 6 rfl) ?_
      have hi14 := (gin_some h).1
      replace h := (gin_some h).2
      refine r_iald hx hb hK hw 11 0 12 (by decide) rfl rfl rfl hi14 dX12_closes_81 ?_
      refine lv_iload hx hb dX12_closes_82 (lv_at hl 4 rfl) ?_
      refine lv_icmp_ne (tgt := 91) hx hb dX12_closes_84 (by decide) (fun c15 => ?_) (fun c15 => ?_)
      · replace h := ite_f h c15
        refine lv_iconst (v := (0 : Int32)) hx hb dX12_closes_91 (by decide) ?_
        exact tX12_closes_92 C hrc hr49 hr64 v1 v2 v3 v4 v6 (0 : Int32) sg lg _ _ _ hw (lv_sub hl [0, 1, 2, 3, 4, 6] rfl) h
      · replace h := ite_t h c15
        exact tX12_closes_87 C hrc hr49 hr64 v1 v2 v3 v4 v6 sg lg _ _ _ hw (lv_sub hl [0, 1, 2, 3, 4, 6] rfl) h
def LX12_closes_64 (rc : Int32 × Int32 × Sg × Lg → Option (Int32 × Sg × Lg)) (r49 : (Int32 × Int32 × Int32 × Int32 × Sg × Lg) → Option (Int32 × Sg × Lg)) : (Int32 × Int32 × Int32 × Int32 × Int32 × Int32 × Sg × Lg) → Option (Int32 × Sg × Lg) := loop (fun rec z => fX12_closes_64 rc r49 rec z.1 z.2.1 z.2.2.1 z.2.2.2.1 z.2.2.2.2.1 z.2.2.2.2.2.1 z.2.2.2.2.2.2.1 z.2.2.2.2.2.2.2)
theorem TX12_closes_64 (C : Cx p s m args meth c cX12_closes 7 RX12 wsX12_closes (some .boolean) D vwCl (tysM T) A false []) {dd : Nat} {rc : Int32 × Int32 × Sg × Lg → Option (Int32 × Sg × Lg)} (hrc : ∀ (ad : Nat → Nat) (sz : Nat) (v1 : Int32) (v2 : Int32) (sg : Sg) (lg : Lg) (ro : Int32) (so : Sg) (lo : Lg), rc (v1, v2, sg, lg) = some (ro, so, lo) → Met l yX12_closes wsX12_closes (rmX12_closes dd) (PreZ ZM D vwCl T (tysM T) ad sg lg false [] [.ref (ad 0), .int v1, .int v2] sz) (QI ZM D vwCl T (tysM T) (va_A (zwd ZM T ad sg lg) sz) (fun z => ad = z) ro so lo) 0 0 (va_A (zwd ZM T ad sg lg) sz)) {ro : Int32} {so : Sg} {lo : Lg} {r49 : (Int32 × Int32 × Int32 × Int32 × Sg × Lg) → Option (Int32 × Sg × Lg)} (hr49 : ∀ (v1 : Int32) (v2 : Int32) (v3 : Int32) (v4 : Int32) (sg : Sg) (lg : Lg), r49 (v1, v2, v3, v4, sg, lg) = some (ro, so, lo) → ∀ (H : Heap) (locs : List Loc) (ls : Array Slot), WS ZM D vwCl T ad sg lg A s.heap H locs → lv_has ls 7 [(0, .ref (ad 0)), (1, .int v1), (2, .int v2), (3, .int v3), (4, .int v4)] → W p l e (rmX12_closes (dd + 1)) s m args below meth c H locs 0 0 (MQ below (QI ZM D vwCl T (tysM T) A (fun z => ad = z) ro so lo) args s 0 0 A) (F0 m 49 ls [])) : ∀ (v1 : Int32) (v2 : Int32) (v3 : Int32) (v4 : Int32) (v5 : Int32) (v6 : Int32) (sg : Sg) (lg : Lg), LX12_closes_64 rc r49 (v1, v2, v3, v4, v5, v6, sg, lg) = some (ro, so, lo) → ∀ (H : Heap) (locs : List Loc) (ls : Array Slot), WS ZM D vwCl T ad sg lg A s.heap H locs → lv_has ls 7 [(0, .ref (ad 0)), (1, .int v1), (2, .int v2), (3, .int v3), (4, .int v4), (5, .int v5), (6, .int v6)] → W p l e (rmX12_closes (dd + 1)) s m args below meth c H locs 0 0 (MQ below (QI ZM D vwCl T (tysM T) A (fun z => ad = z) ro so lo) args s 0 0 A) (F0 m 64 ls []) := by
  have key : ∀ z : (Int32 × Int32 × Int32 × Int32 × Int32 × Int32 × Sg × Lg), LX12_closes_64 rc r49 z = some (ro, so, lo) → ∀ (H : Heap) (locs : List Loc) (ls : Array Slot), WS ZM D vwCl T ad z.2.2.2.2.2.2.1 z.2.2.2.2.2.2.2 A s.heap H locs → lv_has ls 7 [(0, .ref (ad 0)), (1, .int z.1), (2, .int z.2.1), (3, .int z.2.2.1), (4, .int z.2.2.2.1), (5, .int z.2.2.2.2.1), (6, .int z.2.2.2.2.2.1)] → W p l e (rmX12_closes (dd + 1)) s m args below meth c H locs 0 0 (MQ below (QI ZM D vwCl T (tysM T) A (fun z => ad = z) ro so lo) args s 0 0 A) (F0 m 64 ls []) := by
    intro z h
    unfold LX12_closes_64 at h
    exact loop_ind (fun rec z => fX12_closes_64 rc r49 rec z.1 z.2.1 z.2.2.1 z.2.2.2.1 z.2.2.2.2.1 z.2.2.2.2.2.1 z.2.2.2.2.2.2.1 z.2.2.2.2.2.2.2) (y := (ro, so, lo)) (P := fun z => ∀ (H : Heap) (locs : List Loc) (ls : Array Slot), WS ZM D vwCl T ad z.2.2.2.2.2.2.1 z.2.2.2.2.2.2.2 A s.heap H locs → lv_has ls 7 [(0, .ref (ad 0)), (1, .int z.1), (2, .int z.2.1), (3, .int z.2.2.1), (4, .int z.2.2.2.1), (5, .int z.2.2.2.2.1), (6, .int z.2.2.2.2.2.1)] → W p l e (rmX12_closes (dd + 1)) s m args below meth c H locs 0 0 (MQ below (QI ZM D vwCl T (tysM T) A (fun z => ad = z) ro so lo) args s 0 0 A) (F0 m 64 ls [])) (fun rec hrec z h H locs ls hw hl => tX12_closes_64 C hrc hr49 (fun v1 v2 v3 v4 v5 v6 sg lg => hrec (v1, v2, v3, v4, v5, v6, sg, lg)) z.1 z.2.1 z.2.2.1 z.2.2.2.1 z.2.2.2.2.1 z.2.2.2.2.2.1 z.2.2.2.2.2.2.1 z.2.2.2.2.2.2.2 H locs ls hw hl h) z h
  exact fun v1 v2 v3 v4 v5 v6 sg lg => key (v1, v2, v3, v4, v5, v6, sg, lg)
def fX12_closes_49 (rc : Int32 × Int32 × Sg × Lg → Option (Int32 × Sg × Lg)) (r49 : (Int32 × Int32 × Int32 × Int32 × Sg × Lg) → Option (Int32 × Sg × Lg)) (v1 : Int32) (v2 : Int32) (v3 : Int32) (v4 : Int32) (sg : Sg) (lg : Lg) : Option (Int32 × Sg × Lg) :=
  bnd3 (fX12_hens sg lg) (fun y1 sg2 lg3 => (if y1 ≤ v4 then some ((0 : Int32), sg2, lg3) else LX12_closes_64 rc r49 (v1, v2, v3, v4, (0 : Int32), (0 : Int32), sg2, lg3)))
set_option maxHeartbeats 4000000 in
set_option maxRecDepth 100000 in
theorem tX12_closes_49 (C : Cx p s m args meth c cX12_closes 7 RX12 wsX12_closes (some .boolean) D vwCl (tysM T) A false []) {dd : Nat} {rc : Int32 × Int32 × Sg × Lg → Option (Int32 × Sg × Lg)} (hrc : ∀ (ad : Nat → Nat) (sz : Nat) (v1 : Int32) (v2 : Int32) (sg : Sg) (lg : Lg) (ro : Int32) (so : Sg) (lo : Lg), rc (v1, v2, sg, lg) = some (ro, so, lo) → Met l yX12_closes wsX12_closes (rmX12_closes dd) (PreZ ZM D vwCl T (tysM T) ad sg lg false [] [.ref (ad 0), .int v1, .int v2] sz) (QI ZM D vwCl T (tysM T) (va_A (zwd ZM T ad sg lg) sz) (fun z => ad = z) ro so lo) 0 0 (va_A (zwd ZM T ad sg lg) sz)) {ro : Int32} {so : Sg} {lo : Lg} {r49 : (Int32 × Int32 × Int32 × Int32 × Sg × Lg) → Option (Int32 × Sg × Lg)} (hr49 : ∀ (v1 : Int32) (v2 : Int32) (v3 : Int32) (v4 : Int32) (sg : Sg) (lg : Lg), r49 (v1, v2, v3, v4, sg, lg) = some (ro, so, lo) → ∀ (H : Heap) (locs : List Loc) (ls : Array Slot), WS ZM D vwCl T ad sg lg A s.heap H locs → lv_has ls 7 [(0, .ref (ad 0)), (1, .int v1), (2, .int v2), (3, .int v3), (4, .int v4)] → W p l e (rmX12_closes (dd + 1)) s m args below meth c H locs 0 0 (MQ below (QI ZM D vwCl T (tysM T) A (fun z => ad = z) ro so lo) args s 0 0 A) (F0 m 49 ls [])) : ∀ (v1 : Int32) (v2 : Int32) (v3 : Int32) (v4 : Int32) (sg : Sg) (lg : Lg), ∀ (H : Heap) (locs : List Loc) (ls : Array Slot), WS ZM D vwCl T ad sg lg A s.heap H locs → lv_has ls 7 [(0, .ref (ad 0)), (1, .int v1), (2, .int v2), (3, .int v3), (4, .int v4)] → fX12_closes_49 rc r49 v1 v2 v3 v4 sg lg = some (ro, so, lo) → W p l e (rmX12_closes (dd + 1)) s m args below meth c H locs 0 0 (MQ below (QI ZM D vwCl T (tysM T) A (fun z => ad = z) ro so lo) args s 0 0 A) (F0 m 49 ls []) := by
  obtain ⟨⟨hx, hb, hml, hown, hts⟩, hr, hlk, hK, hA, hsp⟩ := id C
  intro v1 v2 v3 v4 sg lg H locs ls hw hl h
  unfold fX12_closes_49 at h
  refine lv_iload hx hb dX12_closes_49 (lv_at hl 4 rfl) ?_
  refine lv_aload_n hx hb dX12_closes_51 rfl (lv_at hl 0 rfl) ?_
  obtain ⟨y1, sg2, lg3, hq4, h2⟩ := bnd3_some h
  replace h := h2
  clear h2
  refine r_cVi (As := []) (rest := [.int v4]) C hw 0 (by decide) (ci := 12) rfl rfl (mX12_hens l D T ad  H.size sg lg hq4) (cwV 0 hts gX12_closes_X12_hens rfl rfl rfl (by decide +kernel) ⟨by simp only [rmX12_closes, rmX12_hens]; omega, by simp only [rmX12_closes, rmX12_hens]; omega⟩) rfl hl.1 rfl (Nat.le_of_ble_eq_true rfl) dX12_closes_52 ⟨by simp only [rmX12_closes, rmX12_hens]; omega, by simp only [rmX12_closes, rmX12_hens]; omega⟩ (fun ad' H locs hp hw => ?_)
  subst hp
  refine W.widen (k := 0) (n := 0) (by decide) (by decide) ?_
  refine lv_icmp_ge (tgt := 147) hx hb dX12_closes_55 (by decide) (fun c5 => ?_) (fun c5 => ?_)
  · replace h := ite_t h c5
    refine lv_iconst (v := (0 : Int32)) hx hb dX12_closes_147 (by decide) ?_
    cases h
    exact r_zret C hw rfl (by decide) (by decide) (by decide) dX12_closes_148
  · replace h := ite_f h c5
    refine lv_iconst (v := (0 : Int32)) hx hb dX12_closes_58 (by decide) ?_
    refine lv_istore (lv' := [(5, .int (0 : Int32)), (0, .ref (ad 0)), (1, .int v1), (2, .int v2), (3, .int v3), (4, .int v4)]) hx hb dX12_closes_59 hl (by decide) rfl (fun ls hl => ?_)
    refine lv_iconst (v := (0 : Int32)) hx hb dX12_closes_61 (by decide) ?_
    refine lv_istore (lv' := [(6, .int (0 : Int32)), (5, .int (0 : Int32)), (0, .ref (ad 0)), (1, .int v1), (2, .int v2), (3, .int v3), (4, .int v4)]) hx hb dX12_closes_62 hl (by decide) rfl (fun ls hl => ?_)
    exact TX12_closes_64 C hrc hr49 v1 v2 v3 v4 (0 : Int32) (0 : Int32) sg2 lg3 h _ _ _ hw (lv_sub hl [2, 3, 4, 5, 6, 1, 0] rfl)
def LX12_closes_49 (rc : Int32 × Int32 × Sg × Lg → Option (Int32 × Sg × Lg))  : (Int32 × Int32 × Int32 × Int32 × Sg × Lg) → Option (Int32 × Sg × Lg) := loop (fun rec z => fX12_closes_49 rc rec z.1 z.2.1 z.2.2.1 z.2.2.2.1 z.2.2.2.2.1 z.2.2.2.2.2)
theorem TX12_closes_49 (C : Cx p s m args meth c cX12_closes 7 RX12 wsX12_closes (some .boolean) D vwCl (tysM T) A false []) {dd : Nat} {rc : Int32 × Int32 × Sg × Lg → Option (Int32 × Sg × Lg)} (hrc : ∀ (ad : Nat → Nat) (sz : Nat) (v1 : Int32) (v2 : Int32) (sg : Sg) (lg : Lg) (ro : Int32) (so : Sg) (lo : Lg), rc (v1, v2, sg, lg) = some (ro, so, lo) → Met l yX12_closes wsX12_closes (rmX12_closes dd) (PreZ ZM D vwCl T (tysM T) ad sg lg false [] [.ref (ad 0), .int v1, .int v2] sz) (QI ZM D vwCl T (tysM T) (va_A (zwd ZM T ad sg lg) sz) (fun z => ad = z) ro so lo) 0 0 (va_A (zwd ZM T ad sg lg) sz)) {ro : Int32} {so : Sg} {lo : Lg}   : ∀ (v1 : Int32) (v2 : Int32) (v3 : Int32) (v4 : Int32) (sg : Sg) (lg : Lg), LX12_closes_49 rc (v1, v2, v3, v4, sg, lg) = some (ro, so, lo) → ∀ (H : Heap) (locs : List Loc) (ls : Array Slot), WS ZM D vwCl T ad sg lg A s.heap H locs → lv_has ls 7 [(0, .ref (ad 0)), (1, .int v1), (2, .int v2), (3, .int v3), (4, .int v4)] → W p l e (rmX12_closes (dd + 1)) s m args below meth c H locs 0 0 (MQ below (QI ZM D vwCl T (tysM T) A (fun z => ad = z) ro so lo) args s 0 0 A) (F0 m 49 ls []) := by
  have key : ∀ z : (Int32 × Int32 × Int32 × Int32 × Sg × Lg), LX12_closes_49 rc z = some (ro, so, lo) → ∀ (H : Heap) (locs : List Loc) (ls : Array Slot), WS ZM D vwCl T ad z.2.2.2.2.1 z.2.2.2.2.2 A s.heap H locs → lv_has ls 7 [(0, .ref (ad 0)), (1, .int z.1), (2, .int z.2.1), (3, .int z.2.2.1), (4, .int z.2.2.2.1)] → W p l e (rmX12_closes (dd + 1)) s m args below meth c H locs 0 0 (MQ below (QI ZM D vwCl T (tysM T) A (fun z => ad = z) ro so lo) args s 0 0 A) (F0 m 49 ls []) := by
    intro z h
    unfold LX12_closes_49 at h
    exact loop_ind (fun rec z => fX12_closes_49 rc rec z.1 z.2.1 z.2.2.1 z.2.2.2.1 z.2.2.2.2.1 z.2.2.2.2.2) (y := (ro, so, lo)) (P := fun z => ∀ (H : Heap) (locs : List Loc) (ls : Array Slot), WS ZM D vwCl T ad z.2.2.2.2.1 z.2.2.2.2.2 A s.heap H locs → lv_has ls 7 [(0, .ref (ad 0)), (1, .int z.1), (2, .int z.2.1), (3, .int z.2.2.1), (4, .int z.2.2.2.1)] → W p l e (rmX12_closes (dd + 1)) s m args below meth c H locs 0 0 (MQ below (QI ZM D vwCl T (tysM T) A (fun z => ad = z) ro so lo) args s 0 0 A) (F0 m 49 ls [])) (fun rec hrec z h H locs ls hw hl => tX12_closes_49 C hrc (fun v1 v2 v3 v4 sg lg => hrec (v1, v2, v3, v4, sg, lg)) z.1 z.2.1 z.2.2.1 z.2.2.2.1 z.2.2.2.2.1 z.2.2.2.2.2 H locs ls hw hl h) z h
  exact fun v1 v2 v3 v4 sg lg => key (v1, v2, v3, v4, sg, lg)
def bX12_closes (rc : Int32 × Int32 × Sg × Lg → Option (Int32 × Sg × Lg))  (v1 : Int32) (v2 : Int32) (sg : Sg) (lg : Lg) : Option (Int32 × Sg × Lg) :=
  lt (v1 - (1 : Int32)) (fun x1 => gin x1 12 (lt (sg 11 x1.toNatClampNeg) (fun x3 => (if v1 = v2 then gin (0 : Int32) 12 (lt (((12 : Int32) * x3) + (sg 11 (0 : Int32).toNatClampNeg)) (fun x8 => gin x8 144 ((if (sg 10 x8.toNatClampNeg) ≤ 0 then some ((0 : Int32), sg, lg) else some ((1 : Int32), sg, lg))))) else gin (0 : Int32) 12 (lt ((sg 11 (0 : Int32).toNatClampNeg) + (1 : Int32)) (fun x6 => LX12_closes_49 rc (v1, v2, x3, x6, sg, lg)))))))
set_option maxHeartbeats 4000000 in
set_option maxRecDepth 100000 in
theorem tX12_closes_0 (C : Cx p s m args meth c cX12_closes 7 RX12 wsX12_closes (some .boolean) D vwCl (tysM T) A false []) {dd : Nat} {rc : Int32 × Int32 × Sg × Lg → Option (Int32 × Sg × Lg)} (hrc : ∀ (ad : Nat → Nat) (sz : Nat) (v1 : Int32) (v2 : Int32) (sg : Sg) (lg : Lg) (ro : Int32) (so : Sg) (lo : Lg), rc (v1, v2, sg, lg) = some (ro, so, lo) → Met l yX12_closes wsX12_closes (rmX12_closes dd) (PreZ ZM D vwCl T (tysM T) ad sg lg false [] [.ref (ad 0), .int v1, .int v2] sz) (QI ZM D vwCl T (tysM T) (va_A (zwd ZM T ad sg lg) sz) (fun z => ad = z) ro so lo) 0 0 (va_A (zwd ZM T ad sg lg) sz)) {ro : Int32} {so : Sg} {lo : Lg}   : ∀ (v1 : Int32) (v2 : Int32) (sg : Sg) (lg : Lg), ∀ (H : Heap) (locs : List Loc) (ls : Array Slot), WS ZM D vwCl T ad sg lg A s.heap H locs → lv_has ls 7 [(0, .ref (ad 0)), (1, .int v1), (2, .int v2)] → bX12_closes rc v1 v2 sg lg = some (ro, so, lo) → W p l e (rmX12_closes (dd + 1)) s m args below meth c H locs 0 0 (MQ below (QI ZM D vwCl T (tysM T) A (fun z => ad = z) ro so lo) args s 0 0 A) (F0 m 0 ls []) := by
  obtain ⟨⟨hx, hb, hml, hown, hts⟩, hr, hlk, hK, hA, hsp⟩ := id C
  intro v1 v2 sg lg H locs ls hw hl h
  unfold bX12_closes at h
  refine lv_aload_n hx hb dX12_closes_0 rfl (lv_at hl 0 rfl) ?_
  refine r_getR (ci := 12) (C := RX12) (U := TX12) (N := 18) hx hb hts kX12_closes_iX12 hown hK hw 0 (by decide) rfl rfl 15 (by decide) 11 rfl (hts _ kX12_closes_f43) (fun _ h9 => h9) dX12_closes_1 ?_
  refine lv_iload_n hx hb dX12_closes_4 rfl (lv_at hl 1 rfl) ?_
  refine lv_iconst (v := (1 : Int32)) hx hb dX12_closes_5 (by decide) ?_
  refine lv_isub hx hb dX12_closes_6 ?_
  refine lv_topi (fun x1 ex1 => ?_)
  replace h := lt_get h x1 ex1
  have hi2 := (gin_some h).1
  replace h := (gin_some h).2
  refine r_iald hx hb hK hw 11 0 12 (by decide) rfl rfl rfl hi2 dX12_closes_7 ?_
  refine lv_topi (fun x3 ex3 => ?_)
  replace h := lt_get h x3 ex3
  refine lv_istore_n (lv' := [(3, .int x3), (0, .ref (ad 0)), (1, .int v1), (2, .int v2)]) hx hb dX12_closes_8 rfl hl (by decide) rfl (fun ls hl => ?_)
  refine lv_iload_n hx hb dX12_closes_9 rfl (lv_at hl 2 rfl) ?_
  refine lv_iload_n hx hb dX12_closes_10 rfl (lv_at hl 3 rfl) ?_
  refine lv_icmp_ne (tgt := 39) hx hb dX12_closes_11 (by decide) (fun c4 => ?_) (fun c4 => ?_)
  · replace h := ite_f h c4
    refine lv_aload_n hx hb dX12_closes_39 rfl (lv_at hl 1 rfl) ?_
    refine r_getR (ci := 12) (C := RX12) (U := TX12) (N := 18) hx hb hts kX12_closes_iX12 hown hK hw 0 (by decide) rfl rfl 15 (by decide) 11 rfl (hts _ kX12_closes_f43) (fun _ h9 => h9) dX12_closes_40 ?_
    refine lv_iconst (v := (0 : Int32)) hx hb dX12_closes_43 (by decide) ?_
    have hi5 := (gin_some h).1
    replace h := (gin_some h).2
    refine r_iald hx hb hK hw 11 0 12 (by decide) rfl rfl rfl hi5 dX12_closes_44 ?_
    refine lv_iconst (v := (1 : Int32)) hx hb dX12_closes_45 (by decide) ?_
    refine lv_iadd hx hb dX12_closes_46 ?_
    refine lv_topi (fun x6 ex6 => ?_)
    replace h := lt_get h x6 ex6
    refine lv_istore (lv' := [(4, .int x6), (3, .int x3), (0, .ref (ad 0)), (1, .int v1), (2, .int v2)]) hx hb dX12_closes_47 hl (by decide) rfl (fun ls hl => ?_)
    exact TX12_closes_49 C hrc v1 v2 x3 x6 sg lg h _ _ _ hw (lv_sub hl [2, 3, 4, 1, 0] rfl)
  · replace h := ite_t h c4
    refine lv_aload_n hx hb dX12_closes_14 rfl (lv_at hl 1 rfl) ?_
    refine r_getR (ci := 12) (C := RX12) (U := TX12) (N := 18) hx hb hts kX12_closes_iX12 hown hK hw 0 (by decide) rfl rfl 14 (by decide) 10 rfl (hts _ kX12_closes_f40) (fun _ h9 => h9) dX12_closes_15 ?_
    refine lv_bipush (v := (12 : Int32)) hx hb dX12_closes_18 (by decide) ?_
    refine lv_iload_n hx hb dX12_closes_20 rfl (lv_at hl 0 rfl) ?_
    refine lv_imul hx hb dX12_closes_21 ?_
    refine lv_aload_n hx hb dX12_closes_22 rfl (lv_at hl 1 rfl) ?_
    refine r_getR (ci := 12) (C := RX12) (U := TX12) (N := 18) hx hb hts kX12_closes_iX12 hown hK hw 0 (by decide) rfl rfl 15 (by decide) 11 rfl (hts _ kX12_closes_f43) (fun _ h9 => h9) dX12_closes_23 ?_
    refine lv_iconst (v := (0 : Int32)) hx hb dX12_closes_26 (by decide) ?_
    have hi7 := (gin_some h).1
    replace h := (gin_some h).2
    refine r_iald hx hb hK hw 11 0 12 (by decide) rfl rfl rfl hi7 dX12_closes_27 ?_
    refine lv_iadd hx hb dX12_closes_28 ?_
    refine lv_topi (fun x8 ex8 => ?_)
    replace h := lt_get h x8 ex8
    have hi9 := (gin_some h).1
    replace h := (gin_some h).2
    refine r_iald hx hb hK hw 10 0 144 (by decide) rfl rfl rfl hi9 dX12_closes_29 ?_
    refine lv_if_le (tgt := 37) hx hb dX12_closes_30 (by decide) (fun c10 => ?_) (fun c10 => ?_)
    · replace h := ite_t h c10
      refine lv_iconst (v := (0 : Int32)) hx hb dX12_closes_37 (by decide) ?_
      cases h
      exact r_zret C hw rfl (by decide) (by decide) (by decide) dX12_closes_38
    · replace h := ite_f h c10
      refine lv_iconst (v := (1 : Int32)) hx hb dX12_closes_33 (by decide) ?_
      refine lv_goto (tgt := 38) hx hb dX12_closes_34 (by decide) ?_
      cases h
      exact r_zret C hw rfl (by decide) (by decide) (by decide) dX12_closes_38
def fX12_closes (v1 : Int32) (v2 : Int32) (sg : Sg) (lg : Lg) : Option (Int32 × Sg × Lg) := itr (fun rc z => bX12_closes rc z.1 z.2.1 z.2.2.1 z.2.2.2) 20 (v1, v2, sg, lg)
theorem nX12_closes (l : Launch) (D : va_G) (T : Nat → ClassId) : ∀ (dd : Nat), (fun rc : Int32 × Int32 × Sg × Lg → Option (Int32 × Sg × Lg) => ∀ (ad : Nat → Nat) (sz : Nat) (v1 : Int32) (v2 : Int32) (sg : Sg) (lg : Lg) (ro : Int32) (so : Sg) (lo : Lg), rc (v1, v2, sg, lg) = some (ro, so, lo) → Met l yX12_closes wsX12_closes (rmX12_closes dd) (PreZ ZM D vwCl T (tysM T) ad sg lg false [] [.ref (ad 0), .int v1, .int v2] sz) (QI ZM D vwCl T (tysM T) (va_A (zwd ZM T ad sg lg) sz) (fun z => ad = z) ro so lo) 0 0 (va_A (zwd ZM T ad sg lg) sz)) (itr (fun rc z => bX12_closes rc z.1 z.2.1 z.2.2.1 z.2.2.2) dd)
  | 0 => fun _ _ _ _ _ _ _ _ _ e => by cases e
  | dd + 1 => fun ad sz v1 v2 sg lg _ _ _ h => metZ [.ref (ad 0), .int v1, .int v2] sz (by decide) rfl (Nat.le_of_ble_eq_true rfl) (fun p e s m below meth c ls C hw hl => tX12_closes_0 C (nX12_closes l D T dd) v1 v2 sg lg _ _ _ hw hl h)
theorem mX12_closes (l : Launch) (D : va_G) (T : Nat → ClassId) (ad : Nat → Nat)  (sz : Nat)   (v1 : Int32) (v2 : Int32) (sg : Sg) (lg : Lg) {ro : Int32} {so : Sg} {lo : Lg} (h : fX12_closes v1 v2 sg lg = some (ro, so, lo)) : Met l yX12_closes wsX12_closes (rmX12_closes 20) (PreZ ZM D vwCl T (tysM T) ad sg lg false [] [.ref (ad 0), .int v1, .int v2] sz) (QI ZM D vwCl T (tysM T) (va_A (zwd ZM T ad sg lg) sz) (fun z => ad = z) ro so lo) 0 0 (va_A (zwd ZM T ad sg lg) sz) :=
  nX12_closes l D T 20 ad sz v1 v2 sg lg _ _ _ h
end ZM
