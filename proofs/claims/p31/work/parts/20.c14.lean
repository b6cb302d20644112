section ZC
variable {p : Program} {l : Launch} {e : Env} {s : State} {m : MethodId} {args : Array Value} {below : List Frame} {meth : Method} {c : Code} {D : va_G} {T : Nat → ClassId} {A : Nat → Prop} {ad a : Nat → Nat} {lg : Lg}
-- PeckYard$Groups.nextGroup(I)I
def rmX3_nextGroup : Room := { frames := 2, cells := 0, slots := 0, locals := 44 }
theorem kX3_nextGroup_f22 : Cond.fieldLink RX3 22 "PeckYard$Groups" "muster" "LPeckYard$Muster;" ∈ wsX3_nextGroup := by decide +kernel
theorem kX3_nextGroup_iX3 : ∀ w ∈ u_ws RX3 TX3 5, w ∈ wsX3_nextGroup := by decide +kernel
theorem kX3_nextGroup_f44 : Cond.fieldLink RX3 44 "PeckYard$Muster" "size" "I" ∈ wsX3_nextGroup := by decide +kernel
theorem kX3_nextGroup_iX8 : ∀ w ∈ u_ws RX8 TX8 10, w ∈ wsX3_nextGroup := by decide +kernel
theorem kX3_nextGroup_ini_X11 : Cond.initialized "PeckYard" ∈ wsX3_nextGroup := by decide +kernel
theorem kX3_nextGroup_s49 : Cond.static yX11_isIn ∈ wsX3_nextGroup := by decide +kernel
theorem kX3_nextGroup_f19 : Cond.fieldLink RX3 19 "PeckYard$Groups" "reached" "[I" ∈ wsX3_nextGroup := by decide +kernel
def fX3_nextGroup_44 (r2 : (Int32 × Int32 × Sg) → Option (Int32 × Sg)) (v1 : Int32) (v2 : Int32) (sg : Sg) : Option (Int32 × Sg) :=
  lt (v2 + (1 : Int32)) (fun x1 => r2 (v1, x1, sg))
set_option maxHeartbeats 4000000 in
set_option maxRecDepth 100000 in
theorem tX3_nextGroup_44 (C : Cx p s m args meth c cX3_nextGroup 4 RX3 wsX3_nextGroup (some .int) D vwCl (tysC T) A true nwL) {ro : Int32} {so : Sg} {r2 : (Int32 × Int32 × Sg) → Option (Int32 × Sg)} (hr2 : ∀ (v1 : Int32) (v2 : Int32) (sg : Sg), r2 (v1, v2, sg) = some (ro, so) → ∀ (H : Heap) (locs : List Loc) (ls : Array Slot), WS ZC D vwCl T ad sg lg A s.heap H locs → lv_has ls 4 [(0, .ref (ad 7)), (1, .int v1), (2, .int v2)] → W p l e rmX3_nextGroup s m args below meth c H locs 0 0 (MQ below (QI ZC D vwCl T (tysC T) A (fun z => ad = z) ro so lg) args s 0 0 A) (F0 m 2 ls [])) : ∀ (v1 : Int32) (v2 : Int32) (sg : Sg), ∀ (H : Heap) (locs : List Loc) (ls : Array Slot), WS ZC D vwCl T ad sg lg A s.heap H locs → lv_has ls 4 [(0, .ref (ad 7)), (1, .int v1), (2, .int v2)] → fX3_nextGroup_44 r2 v1 v2 sg = some (ro, so) → W p l e rmX3_nextGroup s m args below meth c H locs 0 0 (MQ below (QI ZC D vwCl T (tysC T) A (fun z => ad = z) ro so lg) args s 0 0 A) (F0 m 44 ls []) := by
  obtain ⟨⟨hx, hb, hml, hown, hts⟩, hr, hlk, hK, hA, hsp⟩ := id C
  intro v1 v2 sg H locs ls hw hl h
  unfold fX3_nextGroup_44 at h
  obtain ⟨x1, ex1⟩ : ∃ z : Int32, z = (v2 + (1 : Int32)) := ⟨_, rfl⟩
  replace h := lt_get h x1 ex1
  refine lv_iinc (v := x1) (lv' := [(2, .int x1), (0, .ref (ad 7)), (1, .int v1)]) hx hb dX3_nextGroup_44 hl (k := 2) rfl (by rw [ex1]; rfl) (by decide) rfl (fun ls hl => ?_)
  refine lv_goto (tgt := 2) hx hb dX3_nextGroup_47 (by decide) ?_
  exact hr2 v1 x1 sg h _ _ _ hw (lv_sub hl [1, 2, 0] rfl)
def fX3_nextGroup_2 (r2 : (Int32 × Int32 × Sg) → Option (Int32 × Sg)) (v1 : Int32) (v2 : Int32) (sg : Sg) : Option (Int32 × Sg) :=
  (if (sg 3 2) ≤ v2 then some (v1, sg) else bnd2 (fX11_isIn v1 v2 sg) (fun y2 sg3 => (if y2 = 0 then fX3_nextGroup_44 r2 v1 v2 sg3 else bnd2 (fX3_comersTo v2 sg3) (fun y7 sg8 => lt (y7 &&& v1) (fun x10 => gin v2 12 ((if (x10 &&& ((sg8 36 v2.toNatClampNeg) ^^^ (-1 : Int32))) = 0 then some (x10, sg8) else fX3_nextGroup_44 r2 v1 v2 sg8)))))))
set_option maxHeartbeats 4000000 in
set_option maxRecDepth 100000 in
theorem tX3_nextGroup_2 (C : Cx p s m args meth c cX3_nextGroup 4 RX3 wsX3_nextGroup (some .int) D vwCl (tysC T) A true nwL) {ro : Int32} {so : Sg} {r2 : (Int32 × Int32 × Sg) → Option (Int32 × Sg)} (hr2 : ∀ (v1 : Int32) (v2 : Int32) (sg : Sg), r2 (v1, v2, sg) = some (ro, so) → ∀ (H : Heap) (locs : List Loc) (ls : Array Slot), WS ZC D vwCl T ad sg lg A s.heap H locs → lv_has ls 4 [(0, .ref (ad 7)), (1, .int v1), (2, .int v2)] → W p l e rmX3_nextGroup s m args below meth c H locs 0 0 (MQ below (QI ZC D vwCl T (tysC T) A (fun z => ad = z) ro so lg) args s 0 0 A) (F0 m 2 ls [])) : ∀ (v1 : Int32) (v2 : Int32) (sg : Sg), ∀ (H : Heap) (locs : List Loc) (ls : Array Slot), WS ZC D vwCl T ad sg lg A s.heap H locs → lv_has ls 4 [(0, .ref (ad 7)), (1, .int v1), (2, .int v2)] → fX3_nextGroup_2 r2 v1 v2 sg = some (ro, so) → W p l e rmX3_nextGroup s m args below meth c H locs 0 0 (MQ below (QI ZC D vwCl T (tysC T) A (fun z => ad = z) ro so lg) args s 0 0 A) (F0 m 2 ls []) := by
  obtain ⟨⟨hx, hb, hml, hown, hts⟩, hr, hlk, hK, hA, hsp⟩ := id C
  intro v1 v2 sg H locs ls hw hl h
  unfold fX3_nextGroup_2 at h
  refine lv_iload_n hx hb dX3_nextGroup_2 rfl (lv_at hl 2 rfl) ?_
  refine lv_aload_n hx hb dX3_nextGroup_3 rfl (lv_at hl 0 rfl) ?_
  refine r_getR (ci := 3) (C := RX3) (U := TX3) (N := 5) hx hb hts kX3_nextGroup_iX3 hown hK hw 7 (by decide) rfl rfl 0 (by decide) 3 rfl (hts _ kX3_nextGroup_f22) (fun _ h9 => h9) dX3_nextGroup_4 ?_
  refine r_getI (ci := 8) (C := RX8) (U := TX8) (N := 10) hx hb hts kX3_nextGroup_iX8 hown hK hw 3 (by decide) rfl rfl 2 (by decide) rfl (hts _ kX3_nextGroup_f44) (fun _ h9 => h9) dX3_nextGroup_7 ?_
  refine lv_icmp_ge (tgt := 50) hx hb dX3_nextGroup_10 (by decide) (fun c1 => ?_) (fun c1 => ?_)
  · replace h := ite_t h c1
    refine lv_iload_n hx hb dX3_nextGroup_50 rfl (lv_at hl 1 rfl) ?_
    cases h
    exact r_iret C hw rfl (by decide) (by decide) dX3_nextGroup_51
  · replace h := ite_f h c1
    refine lv_iload_n hx hb dX3_nextGroup_13 rfl (lv_at hl 1 rfl) ?_
    refine lv_iload_n hx hb dX3_nextGroup_14 rfl (lv_at hl 2 rfl) ?_
    obtain ⟨y2, sg3, hq4, h2⟩ := bnd2_some h
    replace h := h2
    clear h2
    obtain ⟨-, -, hmt5⟩ := hsp rfl
    refine r_cNi (As := [.int v1, .int v2]) (rest := []) C hw (mX11_isIn l D T ad lg H.size v1 v2 sg hq4) ⟨va_cnB (host := "PeckYard") 2 hts gX3_nextGroup_X11_isIn_n49 rfl rfl rfl (hmt5 _ nw_X3_49) (hts _ kX3_nextGroup_ini_X11) (by decide +kernel) ⟨Nat.le_of_ble_eq_true rfl, Nat.le_of_ble_eq_true rfl⟩, (hts _ kX3_nextGroup_s49), trivial⟩ rfl hl.1 rfl (Nat.le_of_ble_eq_true rfl) dX3_nextGroup_15 ⟨Nat.le_of_ble_eq_true rfl, Nat.le_of_ble_eq_true rfl⟩ (fun ad' H locs hp hw => ?_)
    subst hp
    refine W.widen (k := 0) (n := 0) (by decide) (by decide) ?_
    refine lv_if_eq (tgt := 44) hx hb dX3_nextGroup_18 (by decide) (fun c6 => ?_) (fun c6 => ?_)
    · replace h := ite_t h c6
      exact tX3_nextGroup_44 C hr2 v1 v2 sg3 _ _ _ hw (lv_sub hl [0, 1, 2] rfl) h
    · replace h := ite_f h c6
      refine lv_aload_n hx hb dX3_nextGroup_21 rfl (lv_at hl 0 rfl) ?_
      refine lv_iload_n hx hb dX3_nextGroup_22 rfl (lv_at hl 2 rfl) ?_
      obtain ⟨y7, sg8, hq9, h2⟩ := bnd2_some h
      replace h := h2
      clear h2
      refine r_cVi (As := [.int v2]) (rest := []) C hw 7 (by decide) (ci := 3) rfl rfl (mX3_comersTo l D T ad lg H.size v2 sg3 hq9) (cwV 1 hts gX3_nextGroup_X3_comersTo rfl rfl rfl (by decide +kernel) ⟨Nat.le_of_ble_eq_true rfl, Nat.le_of_ble_eq_true rfl⟩) rfl hl.1 rfl (Nat.le_of_ble_eq_true rfl) dX3_nextGroup_23 ⟨Nat.le_of_ble_eq_true rfl, Nat.le_of_ble_eq_true rfl⟩ (fun ad' H locs hp hw => ?_)
      subst hp
      refine W.widen (k := 0) (n := 0) (by decide) (by decide) ?_
      refine lv_iload_n hx hb dX3_nextGroup_26 rfl (lv_at hl 1 rfl) ?_
      refine lv_iand hx hb dX3_nextGroup_27 ?_
      refine lv_topi (fun x10 ex10 => ?_)
      replace h := lt_get h x10 ex10
      refine lv_istore_n (lv' := [(3, .int x10), (0, .ref (ad 7)), (1, .int v1), (2, .int v2)]) hx hb dX3_nextGroup_28 rfl hl (by decide) rfl (fun ls hl => ?_)
      refine lv_iload_n hx hb dX3_nextGroup_29 rfl (lv_at hl 0 rfl) ?_
      refine lv_aload_n hx hb dX3_nextGroup_30 rfl (lv_at hl 1 rfl) ?_
      refine r_getR (ci := 3) (C := RX3) (U := TX3) (N := 5) hx hb hts kX3_nextGroup_iX3 hown hK hw 7 (by decide) rfl rfl 4 (by decide) 36 rfl (hts _ kX3_nextGroup_f19) (fun _ h9 => h9) dX3_nextGroup_31 ?_
      refine lv_iload_n hx hb dX3_nextGroup_34 rfl (lv_at hl 3 rfl) ?_
      have hi11 := (gin_some h).1
      replace h := (gin_some h).2
      refine r_iald hx hb hK hw 36 0 12 (by decide) rfl rfl rfl hi11 dX3_nextGroup_35 ?_
      refine lv_iconst (v := (-1 : Int32)) hx hb dX3_nextGroup_36 (by decide) ?_
      refine lv_ixor hx hb dX3_nextGroup_37 ?_
      refine lv_iand hx hb dX3_nextGroup_38 ?_
      refine lv_if_ne (tgt := 44) hx hb dX3_nextGroup_39 (by decide) (fun c12 => ?_) (fun c12 => ?_)
      · replace h := ite_f h c12
        exact tX3_nextGroup_44 C hr2 v1 v2 sg8 _ _ _ hw (lv_sub hl [1, 2, 3] rfl) h
      · replace h := ite_t h c12
        refine lv_iload_n hx hb dX3_nextGroup_42 rfl (lv_at hl 0 rfl) ?_
        cases h
        exact r_iret C hw rfl (by decide) (by decide) dX3_nextGroup_43
def LX3_nextGroup_2  : (Int32 × Int32 × Sg) → Option (Int32 × Sg) := loop (fun rec z => fX3_nextGroup_2 rec z.1 z.2.1 z.2.2)
theorem TX3_nextGroup_2 (C : Cx p s m args meth c cX3_nextGroup 4 RX3 wsX3_nextGroup (some .int) D vwCl (tysC T) A true nwL) {ro : Int32} {so : Sg}   : ∀ (v1 : Int32) (v2 : Int32) (sg : Sg), LX3_nextGroup_2 (v1, v2, sg) = some (ro, so) → ∀ (H : Heap) (locs : List Loc) (ls : Array Slot), WS ZC D vwCl T ad sg lg A s.heap H locs → lv_has ls 4 [(0, .ref (ad 7)), (1, .int v1), (2, .int v2)] → W p l e rmX3_nextGroup s m args below meth c H locs 0 0 (MQ below (QI ZC D vwCl T (tysC T) A (fun z => ad = z) ro so lg) args s 0 0 A) (F0 m 2 ls []) := by
  have key : ∀ z : (Int32 × Int32 × Sg), LX3_nextGroup_2  z = some (ro, so) → ∀ (H : Heap) (locs : List Loc) (ls : Array Slot), WS ZC D vwCl T ad z.2.2 lg A s.heap H locs → lv_has ls 4 [(0, .ref (ad 7)), (1, .int z.1), (2, .int z.2.1)] → W p l e rmX3_nextGroup s m args below meth c H locs 0 0 (MQ below (QI ZC D vwCl T (tysC T) A (fun z => ad = z) ro so lg) args s 0 0 A) (F0 m 2 ls []) := by
    intro z h
    unfold LX3_nextGroup_2 at h
    exact loop_ind (fun rec z => fX3_nextGroup_2 rec z.1 z.2.1 z.2.2) (y := (ro, so)) (P := fun z => ∀ (H : Heap) (locs : List Loc) (ls : Array Slot), WS ZC D vwCl T ad z.2.2 lg A s.heap H locs → lv_has ls 4 [(0, .ref (ad 7)), (1, .int z.1), (2, .int z.2.1)] → W p l e rmX3_nextGroup s m args below meth c H locs 0 0 (MQ below (QI ZC D vwCl T (tysC T) A (fun z => ad = z) ro so lg) args s 0 0 A) (F0 m 2 ls [])) (fun rec hrec z h H locs ls hw hl => tX3_nextGroup_2 C  (fun v1 v2 sg => hrec (v1, v2, sg)) z.1 z.2.1 z.2.2 H locs ls hw hl h) z h
  exact fun v1 v2 sg => key (v1, v2, sg)
def fX3_nextGroup  (v1 : Int32) (sg : Sg) : Option (Int32 × Sg) :=
  LX3_nextGroup_2 (v1, (0 : Int32), sg)
set_option maxHeartbeats 4000000 in
set_option maxRecDepth 100000 in
theorem tX3_nextGroup_0 (C : Cx p s m args meth c cX3_nextGroup 4 RX3 wsX3_nextGroup (some .int) D vwCl (tysC T) A true nwL) {ro : Int32} {so : Sg}   : ∀ (v1 : Int32) (sg : Sg), ∀ (H : Heap) (locs : List Loc) (ls : Array Slot), WS ZC D vwCl T ad sg lg A s.heap H locs → lv_has ls 4 [(0, .ref (ad 7)), (1, .int v1)] → fX3_nextGroup v1 sg = some (ro, so) → W p l e rmX3_nextGroup s m args below meth c H locs 0 0 (MQ below (QI ZC D vwCl T (tysC T) A (fun z => ad = z) ro so lg) args s 0 0 A) (F0 m 0 ls []) := by
  obtain ⟨⟨hx, hb, hml, hown, hts⟩, hr, hlk, hK, hA, hsp⟩ := id C
  intro v1 sg H locs ls hw hl h
  unfold fX3_nextGroup at h
  refine lv_iconst (v := (0 : Int32)) hx hb dX3_nextGroup_0 (by decide) ?_
  refine lv_istore_n (lv' := [(2, .int (0 : Int32)), (0, .ref (ad 7)), (1, .int v1)]) hx hb dX3_nextGroup_1 rfl hl (by decide) rfl (fun ls hl => ?_)
  exact TX3_nextGroup_2 C v1 (0 : Int32) sg h _ _ _ hw (lv_sub hl [1, 2, 0] rfl)
theorem mX3_nextGroup (l : Launch) (D : va_G) (T : Nat → ClassId) (ad : Nat → Nat) (lg : Lg) (sz : Nat)   (v1 : Int32) (sg : Sg) {ro : Int32} {so : Sg} (h : fX3_nextGroup v1 sg = some (ro, so)) : Met l yX3_nextGroup wsX3_nextGroup rmX3_nextGroup (PreZ ZC D vwCl T (tysC T) ad sg lg true nwL [.ref (ad 7), .int v1] sz) (QI ZC D vwCl T (tysC T) (va_A (zwd ZC T ad sg lg) sz) (fun z => ad = z) ro so lg) 0 0 (va_A (zwd ZC T ad sg lg) sz) :=
  metZ [.ref (ad 7), .int v1] sz (by decide) rfl (Nat.le_of_ble_eq_true rfl) (fun p e s m below meth c ls C hw hl => tX3_nextGroup_0 C v1 sg _ _ _ hw hl h)
-- PeckYard$Groups.settle()V
def rmX3_settle : Room := { frames := 3, cells := 0, slots := 0, locals := 67 }
theorem kX3_settle_f22 : Cond.fieldLink RX3 22 "PeckYard$Groups" "muster" "LPeckYard$Muster;" ∈ wsX3_settle := by decide +kernel
theorem kX3_settle_iX3 : ∀ w ∈ u_ws RX3 TX3 5, w ∈ wsX3_settle := by decide +kernel
theorem kX3_settle_f9 : Cond.fieldLink RX3 9 "PeckYard$Groups" "settledAt" "I" ∈ wsX3_settle := by decide +kernel
theorem kX3_settle_f31 : Cond.fieldLink RX3 31 "PeckYard$Muster" "stamp" "I" ∈ wsX3_settle := by decide +kernel
theorem kX3_settle_iX8 : ∀ w ∈ u_ws RX8 TX8 10, w ∈ wsX3_settle := by decide +kernel
theorem kX3_settle_f37 : Cond.fieldLink RX3 37 "PeckYard$Groups" "size" "I" ∈ wsX3_settle := by decide +kernel
theorem kX3_settle_f44 : Cond.fieldLink RX3 44 "PeckYard$Muster" "size" "I" ∈ wsX3_settle := by decide +kernel
theorem kX3_settle_ini_X11 : Cond.initialized "PeckYard" ∈ wsX3_settle := by decide +kernel
theorem kX3_settle_s49 : Cond.static yX11_isIn ∈ wsX3_settle := by decide +kernel
theorem kX3_settle_f15 : Cond.fieldLink RX3 15 "PeckYard$Groups" "groupAt" "[I" ∈ wsX3_settle := by decide +kernel
def fX3_settle_108 (r52 : (Int32 × Int32 × Sg) → Option (Sg)) (r76 : (Int32 × Int32 × Int32 × Int32 × Sg) → Option (Sg)) (v1 : Int32) (v2 : Int32) (v3 : Int32) (v4 : Int32) (sg : Sg) : Option (Sg) :=
  lt (v4 + (1 : Int32)) (fun x1 => r76 (v1, v2, v3, x1, sg))
set_option maxHeartbeats 4000000 in
set_option maxRecDepth 100000 in
theorem tX3_settle_108 (C : Cx p s m args meth c cX3_settle 5 RX3 wsX3_settle none D vwCl (tysC T) A true nwL) {so : Sg} {r52 : (Int32 × Int32 × Sg) → Option (Sg)} {r76 : (Int32 × Int32 × Int32 × Int32 × Sg) → Option (Sg)} (hr52 : ∀ (v1 : Int32) (v2 : Int32) (sg : Sg), r52 (v1, v2, sg) = some so → ∀ (H : Heap) (locs : List Loc) (ls : Array Slot), WS ZC D vwCl T ad sg lg A s.heap H locs → lv_has ls 5 [(0, .ref (ad 7)), (1, .int v1), (2, .int v2)] → W p l e rmX3_settle s m args below meth c H locs 0 0 (MQ below (QV ZC D vwCl T (tysC T) A (fun z => ad = z) so lg) args s 0 0 A) (F0 m 52 ls [])) (hr76 : ∀ (v1 : Int32) (v2 : Int32) (v3 : Int32) (v4 : Int32) (sg : Sg), r76 (v1, v2, v3, v4, sg) = some so → ∀ (H : Heap) (locs : List Loc) (ls : Array Slot), WS ZC D vwCl T ad sg lg A s.heap H locs → lv_has ls 5 [(0, .ref (ad 7)), (1, .int v1), (2, .int v2), (3, .int v3), (4, .int v4)] → W p l e rmX3_settle s m args below meth c H locs 0 0 (MQ below (QV ZC D vwCl T (tysC T) A (fun z => ad = z) so lg) args s 0 0 A) (F0 m 76 ls [])) : ∀ (v1 : Int32) (v2 : Int32) (v3 : Int32) (v4 : Int32) (sg : Sg), ∀ (H : Heap) (locs : List Loc) (ls : Array Slot), WS ZC D vwCl T ad sg lg A s.heap H locs → lv_has ls 5 [(0, .ref (ad 7)), (1, .int v1), (2, .int v2), (3, .int v3), (4, .int v4)] → fX3_settle_108 r52 r76 v1 v2 v3 v4 sg = some so → W p l e rmX3_settle s m args below meth c H locs 0 0 (MQ below (QV ZC D vwCl T (tysC T) A (fun z => ad = z) so lg) args s 0 0 A) (F0 m 108 ls []) := by
  obtain ⟨⟨hx, hb, hml, hown, hts⟩, hr, hlk, hK, hA, hsp⟩ := id C
  intro v1 v2 v3 v4 sg H locs ls hw hl h
  unfold fX3_settle_108 at h
  obtain ⟨x1, ex1⟩ : ∃ z : Int32, z = (v4 + (1 : Int32)) := ⟨_, rfl⟩
  replace h := lt_get h x1 ex1
  refine lv_iinc (v := x1) (lv' := [(4, .int x1), (0, .ref (ad 7)), (1, .int v1), (2, .int v2), (3, .int v3)]) hx hb dX3_settle_108 hl (k := 4) rfl (by rw [ex1]; rfl) (by decide) rfl (fun ls hl => ?_)
  refine lv_goto (tgt := 76) hx hb dX3_settle_111 (by decide) ?_
  exact hr76 v1 v2 v3 x1 sg h _ _ _ hw (lv_sub hl [1, 2, 3, 4, 0] rfl)
def fX3_settle_76 (r52 : (Int32 × Int32 × Sg) → Option (Sg)) (r76 : (Int32 × Int32 × Int32 × Int32 × Sg) → Option (Sg)) (v1 : Int32) (v2 : Int32) (v3 : Int32) (v4 : Int32) (sg : Sg) : Option (Sg) :=
  (if (sg 3 2) ≤ v4 then lt (v1 &&& (v3 ^^^ (-1 : Int32))) (fun x2 => lt ((sg 7 2) + (1 : Int32)) (fun x3 => lt (up2 sg 7 2 x3) (fun sg4 => lt (v2 + (1 : Int32)) (fun x5 => r52 (x2, x5, sg4))))) else bnd2 (fX11_isIn v3 v4 sg) (fun y6 sg7 => (if y6 = 0 then fX3_settle_108 r52 r76 v1 v2 v3 v4 sg7 else lt (sg7 7 2) (fun x11 => gin v4 12 (lt (up2 sg7 35 v4.toNatClampNeg x11) (fun sg13 => fX3_settle_108 r52 r76 v1 v2 v3 v4 sg13))))))
set_option maxHeartbeats 4000000 in
set_option maxRecDepth 100000 in
theorem tX3_settle_76 (C : Cx p s m args meth c cX3_settle 5 RX3 wsX3_settle none D vwCl (tysC T) A true nwL) {so : Sg} {r52 : (Int32 × Int32 × Sg) → Option (Sg)} {r76 : (Int32 × Int32 × Int32 × Int32 × Sg) → Option (Sg)} (hr52 : ∀ (v1 : Int32) (v2 : Int32) (sg : Sg), r52 (v1, v2, sg) = some so → ∀ (H : Heap) (locs : List Loc) (ls : Array Slot), WS ZC D vwCl T ad sg lg A s.heap H locs → lv_has ls 5 [(0, .ref (ad 7)), (1, .int v1), (2, .int v2)] → W p l e rmX3_settle s m args below meth c H locs 0 0 (MQ below (QV ZC D vwCl T (tysC T) A (fun z => ad = z) so lg) args s 0 0 A) (F0 m 52 ls [])) (hr76 : ∀ (v1 : Int32) (v2 : Int32) (v3 : Int32) (v4 : Int32) (sg : Sg), r76 (v1, v2, v3, v4, sg) = some so → ∀ (H : Heap) (locs : List Loc) (ls : Array Slot), WS ZC D vwCl T ad sg lg A s.heap H locs → lv_has ls 5 [(0, .ref (ad 7)), (1, .int v1), (2, .int v2), (3, .int v3), (4, .int v4)] → W p l e rmX3_settle s m args below meth c H locs 0 0 (MQ below (QV ZC D vwCl T (tysC T) A (fun z => ad = z) so lg) args s 0 0 A) (F0 m 76 ls [])) : ∀ (v1 : Int32) (v2 : Int32) (v3 : Int32) (v4 : Int32) (sg : Sg), ∀ (H : Heap) (locs : List Loc) (ls : Array Slot), WS ZC D vwCl T ad sg lg A s.heap H locs → lv_has ls 5 [(0, .ref (ad 7)), (1, .int v1), (2, .int v2), (3, .int v3), (4, .int v4)] → fX3_settle_76 r52 r76 v1 v2 v3 v4 sg = some so → W p l e rmX3_settle s m args below meth c H locs 0 0 (MQ below (QV ZC D vwCl T (tysC T) A (fun z => ad = z) so lg) args s 0 0 A) (F0 m 76 ls []) := by
  obtain ⟨⟨hx, hb, hml, hown, hts⟩, hr, hlk, hK, hA, hsp⟩ := id C
  intro v1 v2 v3 v4 sg H locs ls hw hl h
  unfold fX3_settle_76 at h
  refine lv_iload hx hb dX3_settle_76 (lv_at hl 4 rfl) ?_
  refine lv_aload_n hx hb dX3_settle_78 rfl (lv_at hl 0 rfl) ?_
  refine r_getR (ci := 3) (C := RX3) (U := TX3) (N := 5) hx hb hts kX3_settle_iX3 hown hK hw 7 (by decide) rfl rfl 0 (by decide) 3 rfl (hts _ kX3_settle_f22) (fun _ h9 => h9) dX3_settle_79 ?_
  refine r_getI (ci := 8) (C := RX8) (U := TX8) (N := 10) hx hb hts kX3_settle_iX8 hown hK hw 3 (by decide) rfl rfl 2 (by decide) rfl (hts _ kX3_settle_f44) (fun _ h9 => h9) dX3_settle_82 ?_
  refine lv_icmp_ge (tgt := 114) hx hb dX3_settle_85 (by decide) (fun c1 => ?_) (fun c1 => ?_)
  · replace h := ite_t h c1
    refine lv_iload_n hx hb dX3_settle_114 rfl (lv_at hl 1 rfl) ?_
    refine lv_iload_n hx hb dX3_settle_115 rfl (lv_at hl 3 rfl) ?_
    refine lv_iconst (v := (-1 : Int32)) hx hb dX3_settle_116 (by decide) ?_
    refine lv_ixor hx hb dX3_settle_117 ?_
    refine lv_iand hx hb dX3_settle_118 ?_
    refine lv_topi (fun x2 ex2 => ?_)
    replace h := lt_get h x2 ex2
    refine lv_istore_n (lv' := [(1, .int x2), (0, .ref (ad 7)), (2, .int v2), (3, .int v3), (4, .int v4)]) hx hb dX3_settle_119 rfl hl (by decide) rfl (fun ls hl => ?_)
    refine lv_aload_n hx hb dX3_settle_120 rfl (lv_at hl 1 rfl) ?_
    refine lv_dup hx hb dX3_settle_121 rfl ?_
    refine r_getI (ci := 3) (C := RX3) (U := TX3) (N := 5) hx hb hts kX3_settle_iX3 hown hK hw 7 (by decide) rfl rfl 2 (by decide) rfl (hts _ kX3_settle_f37) (fun _ h9 => h9) dX3_settle_122 ?_
    refine lv_iconst (v := (1 : Int32)) hx hb dX3_settle_125 (by decide) ?_
    refine lv_iadd hx hb dX3_settle_126 ?_
    refine lv_topi (fun x3 ex3 => ?_)
    replace h := lt_get h x3 ex3
    refine r_putI ZC_ok (ci := 3) (C := RX3) (U := TX3) (N := 5) (ty := .int) hx hb hts kX3_settle_iX3 tyX3 tyX3_ok nmX3 hown hK hw 7 (by decide) rfl rfl 2 (by decide) rfl (hts _ kX3_settle_f37) (fun _ h9 => h9) rfl (by decide +kernel) rfl rfl dX3_settle_127 (fun H locs sg4 esg4 hw => ?_)
    replace h := lt_get h sg4 esg4
    obtain ⟨x5, ex5⟩ : ∃ z : Int32, z = (v2 + (1 : Int32)) := ⟨_, rfl⟩
    replace h := lt_get h x5 ex5
    refine lv_iinc (v := x5) (lv' := [(2, .int x5), (1, .int x2), (0, .ref (ad 7)), (3, .int v3), (4, .int v4)]) hx hb dX3_settle_130 hl (k := 2) rfl (by rw [ex5]; rfl) (by decide) rfl (fun ls hl => ?_)
    refine lv_goto (tgt := 52) hx hb dX3_settle_133 (by decide) ?_
    exact hr52 x2 x5 sg4 h _ _ _ hw (lv_sub hl [2, 1, 0] rfl)
  · replace h := ite_f h c1
    refine lv_iload_n hx hb dX3_settle_88 rfl (lv_at hl 3 rfl) ?_
    refine lv_iload hx hb dX3_settle_89 (lv_at hl 4 rfl) ?_
    obtain ⟨y6, sg7, hq8, h2⟩ := bnd2_some h
    replace h := h2
    clear h2
    obtain ⟨-, -, hmt9⟩ := hsp rfl
    refine r_cNi (As := [.int v3, .int v4]) (rest := []) C hw (mX11_isIn l D T ad lg H.size v3 v4 sg hq8) ⟨va_cnB (host := "PeckYard") 2 hts gX3_settle_X11_isIn_n49 rfl rfl rfl (hmt9 _ nw_X3_49) (hts _ kX3_settle_ini_X11) (by decide +kernel) ⟨Nat.le_of_ble_eq_true rfl, Nat.le_of_ble_eq_true rfl⟩, (hts _ kX3_settle_s49), trivial⟩ rfl hl.1 rfl (Nat.le_of_ble_eq_true rfl) dX3_settle_91 ⟨Nat.le_of_ble_eq_true rfl, Nat.le_of_ble_eq_true rfl⟩ (fun ad' H locs hp hw => ?_)
    subst hp
    refine W.widen (k := 0) (n := 0) (by decide) (by decide) ?_
    refine lv_if_eq (tgt := 108) hx hb dX3_settle_94 (by decide) (fun c10 => ?_) (fun c10 => ?_)
    · replace h := ite_t h c10
      exact tX3_settle_108 C hr52 hr76 v1 v2 v3 v4 sg7 _ _ _ hw (lv_sub hl [0, 1, 2, 3, 4] rfl) h
    · replace h := ite_f h c10
      refine lv_aload_n hx hb dX3_settle_97 rfl (lv_at hl 0 rfl) ?_
      refine r_getR (ci := 3) (C := RX3) (U := TX3) (N := 5) hx hb hts kX3_settle_iX3 hown hK hw 7 (by decide) rfl rfl 3 (by decide) 35 rfl (hts _ kX3_settle_f15) (fun _ h9 => h9) dX3_settle_98 ?_
      refine lv_iload hx hb dX3_settle_101 (lv_at hl 4 rfl) ?_
      refine lv_aload_n hx hb dX3_settle_103 rfl (lv_at hl 0 rfl) ?_
      refine r_getI (ci := 3) (C := RX3) (U := TX3) (N := 5) hx hb hts kX3_settle_iX3 hown hK hw 7 (by decide) rfl rfl 2 (by decide) rfl (hts _ kX3_settle_f37) (fun _ h9 => h9) dX3_settle_104 ?_
      refine lv_topi (fun x11 ex11 => ?_)
      replace h := lt_get h x11 ex11
      have hi12 := (gin_some h).1
      replace h := (gin_some h).2
      refine r_iast ZC_ok hx hb hK hw 35 0 12 (by decide) rfl rfl rfl hi12 dX3_settle_107 (fun H locs sg13 esg13 hw => ?_)
      replace h := lt_get h sg13 esg13
      exact tX3_settle_108 C hr52 hr76 v1 v2 v3 v4 sg13 _ _ _ hw (lv_sub hl [0, 1, 2, 3, 4] rfl) h
def LX3_settle_76 (r52 : (Int32 × Int32 × Sg) → Option (Sg)) : (Int32 × Int32 × Int32 × Int32 × Sg) → Option (Sg) := loop (fun rec z => fX3_settle_76 r52 rec z.1 z.2.1 z.2.2.1 z.2.2.2.1 z.2.2.2.2)
theorem TX3_settle_76 (C : Cx p s m args meth c cX3_settle 5 RX3 wsX3_settle none D vwCl (tysC T) A true nwL) {so : Sg} {r52 : (Int32 × Int32 × Sg) → Option (Sg)} (hr52 : ∀ (v1 : Int32) (v2 : Int32) (sg : Sg), r52 (v1, v2, sg) = some so → ∀ (H : Heap) (locs : List Loc) (ls : Array Slot), WS ZC D vwCl T ad sg lg A s.heap H locs → lv_has ls 5 [(0, .ref (ad 7)), (1, .int v1), (2, .int v2)] → W p l e rmX3_settle s m args below meth c H locs 0 0 (MQ below (QV ZC D vwCl T (tysC T) A (fun z => ad = z) so lg) args s 0 0 A) (F0 m 52 ls [])) : ∀ (v1 : Int32) (v2 : Int32) (v3 : Int32) (v4 : Int32) (sg : Sg), LX3_settle_76 r52 (v1, v2, v3, v4, sg) = some so → ∀ (H : Heap) (locs : List Loc) (ls : Array Slot), WS ZC D vwCl T ad sg lg A s.heap H locs → lv_has ls 5 [(0, .ref (ad 7)), (1, .int v1), (2, .int v2), (3, .int v3), (4, .int v4)] → W p l e rmX3_settle s m args below meth c H locs 0 0 (MQ below (QV ZC D vwCl T (tysC T) A (fun z => ad = z) so lg) args s 0 0 A) (F0 m 76 ls []) := by
  have key : ∀ z : (Int32 × Int32 × Int32 × Int32 × Sg), LX3_settle_76 r52 z = some so → ∀ (H : Heap) (locs : List Loc) (ls : Array Slot), WS ZC D vwCl T ad z.2.2.2.2 lg A s.heap H locs → lv_has ls 5 [(0, .ref (ad 7)), (1, .int z.1), (2, .int z.2.1), (3, .int z.2.2.1), (4, .int z.2.2.2.1)] → W p l e rmX3_settle s m args below meth c H locs 0 0 (MQ below (QV ZC D vwCl T (tysC T) A (fun z => ad = z) so lg) args s 0 0 A) (F0 m 76 ls []) := by
    intro z h
    unfold LX3_settle_76 at h
    exact loop_ind (fun rec z => fX3_settle_76 r52 rec z.1 z.2.1 z.2.2.1 z.2.2.2.1 z.2.2.2.2) (y := so) (P := fun z => ∀ (H : Heap) (locs : List Loc) (ls : Array Slot), WS ZC D vwCl T ad z.2.2.2.2 lg A s.heap H locs → lv_has ls 5 [(0, .ref (ad 7)), (1, .int z.1), (2, .int z.2.1), (3, .int z.2.2.1), (4, .int z.2.2.2.1)] → W p l e rmX3_settle s m args below meth c H locs 0 0 (MQ below (QV ZC D vwCl T (tysC T) A (fun z => ad = z) so lg) args s 0 0 A) (F0 m 76 ls [])) (fun rec hrec z h H locs ls hw hl => tX3_settle_76 C hr52 (fun v1 v2 v3 v4 sg => hrec (v1, v2, v3, v4, sg)) z.1 z.2.1 z.2.2.1 z.2.2.2.1 z.2.2.2.2 H locs ls hw hl h) z h
  exact fun v1 v2 v3 v4 sg => key (v1, v2, v3, v4, sg)
def fX3_settle_52 (r52 : (Int32 × Int32 × Sg) → Option (Sg)) (v1 : Int32) (v2 : Int32) (sg : Sg) : Option (Sg) :=
  (if (sg 3 2) ≤ v2 then some sg else (if v1 = 0 then some sg else bnd2 (fX3_nextGroup v1 sg) (fun y3 sg4 => LX3_settle_76 r52 (v1, v2, y3, (0 : Int32), sg4))))
set_option maxHeartbeats 4000000 in
set_option maxRecDepth 100000 in
theorem tX3_settle_52 (C : Cx p s m args meth c cX3_settle 5 RX3 wsX3_settle none D vwCl (tysC T) A true nwL) {so : Sg} {r52 : (Int32 × Int32 × Sg) → Option (Sg)} (hr52 : ∀ (v1 : Int32) (v2 : Int32) (sg : Sg), r52 (v1, v2, sg) = some so → ∀ (H : Heap) (locs : List Loc) (ls : Array Slot), WS ZC D vwCl T ad sg lg A s.heap H locs → lv_has ls 5 [(0, .ref (ad 7)), (1, .int v1), (2, .int v2)] → W p l e rmX3_settle s m args below meth c H locs 0 0 (MQ below (QV ZC D vwCl T (tysC T) A (fun z => ad = z) so lg) args s 0 0 A) (F0 m 52 ls [])) : ∀ (v1 : Int32) (v2 : Int32) (sg : Sg), ∀ (H : Heap) (locs : List Loc) (ls : Array Slot), WS ZC D vwCl T ad sg lg A s.heap H locs → lv_has ls 5 [(0, .ref (ad 7)), (1, .int v1), (2, .int v2)] → fX3_settle_52 r52 v1 v2 sg = some so → W p l e rmX3_settle s m args below meth c H locs 0 0 (MQ below (QV ZC D vwCl T (tysC T) A (fun z => ad = z) so lg) args s 0 0 A) (F0 m 52 ls []) := by
  obtain ⟨⟨hx, hb, hml, hown, hts⟩, hr, hlk, hK, hA, hsp⟩ := id C
  intro v1 v2 sg H locs ls hw hl h
  unfold fX3_settle_52 at h
  refine lv_iload_n hx hb dX3_settle_52 rfl (lv_at hl 2 rfl) ?_
  refine lv_aload_n hx hb dX3_settle_53 rfl (lv_at hl 0 rfl) ?_
  refine r_getR (ci := 3) (C := RX3) (U := TX3) (N := 5) hx hb hts kX3_settle_iX3 hown hK hw 7 (by decide) rfl rfl 0 (by decide) 3 rfl (hts _ kX3_settle_f22) (fun _ h9 => h9) dX3_settle_54 ?_
  refine r_getI (ci := 8) (C := RX8) (U := TX8) (N := 10) hx hb hts kX3_settle_iX8 hown hK hw 3 (by decide) rfl rfl 2 (by decide) rfl (hts _ kX3_settle_f44) (fun _ h9 => h9) dX3_settle_57 ?_
  refine lv_icmp_ge (tgt := 136) hx hb dX3_settle_60 (by decide) (fun c1 => ?_) (fun c1 => ?_)
  · replace h := ite_t h c1
    cases h
    exact r_vret C hw rfl (by decide) (by decide) dX3_settle_136
  · replace h := ite_f h c1
    refine lv_iload_n hx hb dX3_settle_63 rfl (lv_at hl 1 rfl) ?_
    refine lv_if_eq (tgt := 136) hx hb dX3_settle_64 (by decide) (fun c2 => ?_) (fun c2 => ?_)
    · replace h := ite_t h c2
      cases h
      exact r_vret C hw rfl (by decide) (by decide) dX3_settle_136
    · replace h := ite_f h c2
      refine lv_aload_n hx hb dX3_settle_67 rfl (lv_at hl 0 rfl) ?_
      refine lv_iload_n hx hb dX3_settle_68 rfl (lv_at hl 1 rfl) ?_
      obtain ⟨y3, sg4, hq5, h2⟩ := bnd2_some h
      replace h := h2
      clear h2
      refine r_cVi (As := [.int v1]) (rest := []) C hw 7 (by decide) (ci := 3) rfl rfl (mX3_nextGroup l D T ad lg H.size v1 sg hq5) (cwV 1 hts gX3_settle_X3_nextGroup rfl rfl rfl (by decide +kernel) ⟨Nat.le_of_ble_eq_true rfl, Nat.le_of_ble_eq_true rfl⟩) rfl hl.1 rfl (Nat.le_of_ble_eq_true rfl) dX3_settle_69 ⟨Nat.le_of_ble_eq_true rfl, Nat.le_of_ble_eq_true rfl⟩ (fun ad' H locs hp hw => ?_)
      subst hp
      refine W.widen (k := 0) (n := 0) (by decide) (by decide) ?_
      refine lv_istore_n (lv' := [(3, .int y3), (0, .ref (ad 7)), (1, .int v1), (2, .int v2)]) hx hb dX3_settle_72 rfl hl (by decide) rfl (fun ls hl => ?_)
      refine lv_iconst (v := (0 : Int32)) hx hb dX3_settle_73 (by decide) ?_
      refine lv_istore (lv' := [(4, .int (0 : Int32)), (3, .int y3), (0, .ref (ad 7)), (1, .int v1), (2, .int v2)]) hx hb dX3_settle_74 hl (by decide) rfl (fun ls hl => ?_)
      exact TX3_settle_76 C hr52 v1 v2 y3 (0 : Int32) sg4 h _ _ _ hw (lv_sub hl [2, 3, 4, 1, 0] rfl)
def LX3_settle_52  : (Int32 × Int32 × Sg) → Option (Sg) := loop (fun rec z => fX3_settle_52 rec z.1 z.2.1 z.2.2)
theorem TX3_settle_52 (C : Cx p s m args meth c cX3_settle 5 RX3 wsX3_settle none D vwCl (tysC T) A true nwL) {so : Sg}   : ∀ (v1 : Int32) (v2 : Int32) (sg : Sg), LX3_settle_52 (v1, v2, sg) = some so → ∀ (H : Heap) (locs : List Loc) (ls : Array Slot), WS ZC D vwCl T ad sg lg A s.heap H locs → lv_has ls 5 [(0, .ref (ad 7)), (1, .int v1), (2, .int v2)] → W p l e rmX3_settle s m args below meth c H locs 0 0 (MQ below (QV ZC D vwCl T (tysC T) A (fun z => ad = z) so lg) args s 0 0 A) (F0 m 52 ls []) := by
  have key : ∀ z : (Int32 × Int32 × Sg), LX3_settle_52  z = some so → ∀ (H : Heap) (locs : List Loc) (ls : Array Slot), WS ZC D vwCl T ad z.2.2 lg A s.heap H locs → lv_has ls 5 [(0, .ref (ad 7)), (1, .int z.1), (2, .int z.2.1)] → W p l e rmX3_settle s m args below meth c H locs 0 0 (MQ below (QV ZC D vwCl T (tysC T) A (fun z => ad = z) so lg) args s 0 0 A) (F0 m 52 ls []) := by
    intro z h
    unfold LX3_settle_52 at h
    exact loop_ind (fun rec z => fX3_settle_52 rec z.1 z.2.1 z.2.2) (y := so) (P := fun z => ∀ (H : Heap) (locs : List Loc) (ls : Array Slot), WS ZC D vwCl T ad z.2.2 lg A s.heap H locs → lv_has ls 5 [(0, .ref (ad 7)), (1, .int z.1), (2, .int z.2.1)] → W p l e rmX3_settle s m args below meth c H locs 0 0 (MQ below (QV ZC D vwCl T (tysC T) A (fun z => ad = z) so lg) args s 0 0 A) (F0 m 52 ls [])) (fun rec hrec z h H locs ls hw hl => tX3_settle_52 C  (fun v1 v2 sg => hrec (v1, v2, sg)) z.1 z.2.1 z.2.2 H locs ls hw hl h) z h
  exact fun v1 v2 sg => key (v1, v2, sg)
def fX3_settle  (sg : Sg) : Option (Sg) :=
  bnd1 (fX8_gather sg) (fun sg1 => (if (sg1 7 1) = (sg1 3 1) then some sg1 else lt (sg1 3 1) (fun x4 => lt (up2 sg1 7 1 x4) (fun sg5 => bnd1 (fX3_followPecks sg5) (fun sg6 => lt (up2 sg6 7 2 (0 : Int32)) (fun sg8 => bnd2 (fX8_all sg8) (fun y9 sg10 => LX3_settle_52 (y9, (0 : Int32), sg10))))))))
set_option maxHeartbeats 4000000 in
set_option maxRecDepth 100000 in
theorem tX3_settle_0 (C : Cx p s m args meth c cX3_settle 5 RX3 wsX3_settle none D vwCl (tysC T) A true nwL) {so : Sg}   : ∀ (sg : Sg), ∀ (H : Heap) (locs : List Loc) (ls : Array Slot), WS ZC D vwCl T ad sg lg A s.heap H locs → lv_has ls 5 [(0, .ref (ad 7))] → fX3_settle sg = some so → W p l e rmX3_settle s m args below meth c H locs 0 0 (MQ below (QV ZC D vwCl T (tysC T) A (fun z => ad = z) so lg) args s 0 0 A) (F0 m 0 ls []) := by
  obtain ⟨⟨hx, hb, hml, hown, hts⟩, hr, hlk, hK, hA, hsp⟩ := id C
  intro sg H locs ls hw hl h
  unfold fX3_settle at h
  refine lv_aload_n hx hb dX3_settle_0 rfl (lv_at hl 0 rfl) ?_
  refine r_getR (ci := 3) (C := RX3) (U := TX3) (N := 5) hx hb hts kX3_settle_iX3 hown hK hw 7 (by decide) rfl rfl 0 (by decide) 3 rfl (hts _ kX3_settle_f22) (fun _ h9 => h9) dX3_settle_1 ?_
  obtain ⟨sg1, hq2, h2⟩ := bnd1_some h
  replace h := h2
  clear h2
  refine r_cVv (As := []) (rest := []) C hw 3 (by decide) (ci := 8) rfl rfl (mX8_gather l D T ad lg H.size sg hq2) (cwV 0 hts gX3_settle_X8_gather rfl rfl rfl (by decide +kernel) ⟨Nat.le_of_ble_eq_true rfl, Nat.le_of_ble_eq_true rfl⟩) rfl hl.1 rfl (Nat.le_of_ble_eq_true rfl) dX3_settle_4 ⟨Nat.le_of_ble_eq_true rfl, Nat.le_of_ble_eq_true rfl⟩ (fun ad' H locs hp hw => ?_)
  subst hp
  refine W.widen (k := 0) (n := 0) (by decide) (by decide) ?_
  refine lv_aload_n hx hb dX3_settle_7 rfl (lv_at hl 0 rfl) ?_
  refine r_getI (ci := 3) (C := RX3) (U := TX3) (N := 5) hx hb hts kX3_settle_iX3 hown hK hw 7 (by decide) rfl rfl 1 (by decide) rfl (hts _ kX3_settle_f9) (fun _ h9 => h9) dX3_settle_8 ?_
  refine lv_aload_n hx hb dX3_settle_11 rfl (lv_at hl 0 rfl) ?_
  refine r_getR (ci := 3) (C := RX3) (U := TX3) (N := 5) hx hb hts kX3_settle_iX3 hown hK hw 7 (by decide) rfl rfl 0 (by decide) 3 rfl (hts _ kX3_settle_f22) (fun _ h9 => h9) dX3_settle_12 ?_
  refine r_getI (ci := 8) (C := RX8) (U := TX8) (N := 10) hx hb hts kX3_settle_iX8 hown hK hw 3 (by decide) rfl rfl 1 (by decide) rfl (hts _ kX3_settle_f31) (fun _ h9 => h9) dX3_settle_15 ?_
  refine lv_icmp_ne (tgt := 22) hx hb dX3_settle_18 (by decide) (fun c3 => ?_) (fun c3 => ?_)
  · replace h := ite_f h c3
    refine lv_aload_n hx hb dX3_settle_22 rfl (lv_at hl 0 rfl) ?_
    refine lv_aload_n hx hb dX3_settle_23 rfl (lv_at hl 0 rfl) ?_
    refine r_getR (ci := 3) (C := RX3) (U := TX3) (N := 5) hx hb hts kX3_settle_iX3 hown hK hw 7 (by decide) rfl rfl 0 (by decide) 3 rfl (hts _ kX3_settle_f22) (fun _ h9 => h9) dX3_settle_24 ?_
    refine r_getI (ci := 8) (C := RX8) (U := TX8) (N := 10) hx hb hts kX3_settle_iX8 hown hK hw 3 (by decide) rfl rfl 1 (by decide) rfl (hts _ kX3_settle_f31) (fun _ h9 => h9) dX3_settle_27 ?_
    refine lv_topi (fun x4 ex4 => ?_)
    replace h := lt_get h x4 ex4
    refine r_putI ZC_ok (ci := 3) (C := RX3) (U := TX3) (N := 5) (ty := .int) hx hb hts kX3_settle_iX3 tyX3 tyX3_ok nmX3 hown hK hw 7 (by decide) rfl rfl 1 (by decide) rfl (hts _ kX3_settle_f9) (fun _ h9 => h9) rfl (by decide +kernel) rfl rfl dX3_settle_30 (fun H locs sg5 esg5 hw => ?_)
    replace h := lt_get h sg5 esg5
    refine lv_aload_n hx hb dX3_settle_33 rfl (lv_at hl 0 rfl) ?_
    obtain ⟨sg6, hq7, h2⟩ := bnd1_some h
    replace h := h2
    clear h2
    refine r_cVv (As := []) (rest := []) C hw 7 (by decide) (ci := 3) rfl rfl (mX3_followPecks l D T ad lg H.size sg5 hq7) (cwV 0 hts gX3_settle_X3_followPecks rfl rfl rfl (by decide +kernel) ⟨Nat.le_of_ble_eq_true rfl, Nat.le_of_ble_eq_true rfl⟩) rfl hl.1 rfl (Nat.le_of_ble_eq_true rfl) dX3_settle_34 ⟨Nat.le_of_ble_eq_true rfl, Nat.le_of_ble_eq_true rfl⟩ (fun ad' H locs hp hw => ?_)
    subst hp
    refine W.widen (k := 0) (n := 0) (by decide) (by decide) ?_
    refine lv_aload_n hx hb dX3_settle_37 rfl (lv_at hl 0 rfl) ?_
    refine lv_iconst (v := (0 : Int32)) hx hb dX3_settle_38 (by decide) ?_
    refine r_putI ZC_ok (ci := 3) (C := RX3) (U := TX3) (N := 5) (ty := .int) hx hb hts kX3_settle_iX3 tyX3 tyX3_ok nmX3 hown hK hw 7 (by decide) rfl rfl 2 (by decide) rfl (hts _ kX3_settle_f37) (fun _ h9 => h9) rfl (by decide +kernel) rfl rfl dX3_settle_39 (fun H locs sg8 esg8 hw => ?_)
    replace h := lt_get h sg8 esg8
    refine lv_aload_n hx hb dX3_settle_42 rfl (lv_at hl 0 rfl) ?_
    refine r_getR (ci := 3) (C := RX3) (U := TX3) (N := 5) hx hb hts kX3_settle_iX3 hown hK hw 7 (by decide) rfl rfl 0 (by decide) 3 rfl (hts _ kX3_settle_f22) (fun _ h9 => h9) dX3_settle_43 ?_
    obtain ⟨y9, sg10, hq11, h2⟩ := bnd2_some h
    replace h := h2
    clear h2
    refine r_cVi (As := []) (rest := []) C hw 3 (by decide) (ci := 8) rfl rfl (mX8_all l D T ad lg H.size sg8 hq11) (cwV 0 hts gX3_settle_X8_all rfl rfl rfl (by decide +kernel) ⟨Nat.le_of_ble_eq_true rfl, Nat.le_of_ble_eq_true rfl⟩) rfl hl.1 rfl (Nat.le_of_ble_eq_true rfl) dX3_settle_46 ⟨Nat.le_of_ble_eq_true rfl, Nat.le_of_ble_eq_true rfl⟩ (fun ad' H locs hp hw => ?_)
    subst hp
    refine W.widen (k := 0) (n := 0) (by decide) (by decide) ?_
    refine lv_istore_n (lv' := [(1, .int y9), (0, .ref (ad 7))]) hx hb dX3_settle_49 rfl hl (by decide) rfl (fun ls hl => ?_)
    refine lv_iconst (v := (0 : Int32)) hx hb dX3_settle_50 (by decide) ?_
    refine lv_istore_n (lv' := [(2, .int (0 : Int32)), (1, .int y9), (0, .ref (ad 7))]) hx hb dX3_settle_51 rfl hl (by decide) rfl (fun ls hl => ?_)
    exact TX3_settle_52 C y9 (0 : Int32) sg10 h _ _ _ hw (lv_sub hl [2, 1, 0] rfl)
  · replace h := ite_t h c3
    cases h
    exact r_vret C hw rfl (by decide) (by decide) dX3_settle_21
theorem mX3_settle (l : Launch) (D : va_G) (T : Nat → ClassId) (ad : Nat → Nat) (lg : Lg) (sz : Nat)   (sg : Sg) {so : Sg} (h : fX3_settle sg = some so) : Met l yX3_settle wsX3_settle rmX3_settle (PreZ ZC D vwCl T (tysC T) ad sg lg true nwL [.ref (ad 7)] sz) (QV ZC D vwCl T (tysC T) (va_A (zwd ZC T ad sg lg) sz) (fun z => ad = z) so lg) 0 0 (va_A (zwd ZC T ad sg lg) sz) :=
  metZ [.ref (ad 7)] sz (by decide) rfl (Nat.le_of_ble_eq_true rfl) (fun p e s m below meth c ls C hw hl => tX3_settle_0 C sg _ _ _ hw hl h)
-- PeckYard.groups()J
def rmX11_groups : Room := { frames := 4, cells := 0, slots := 0, locals := 91 }
theorem kX11_groups_f58 : Cond.fieldLink RX11 58 "PeckYard" "groupings" "LPeckYard$Groups;" ∈ wsX11_groups := by decide +kernel
theorem kX11_groups_iX11 : ∀ w ∈ u_ws RX11 TX11 9, w ∈ wsX11_groups := by decide +kernel
theorem kX11_groups_f228 : Cond.fieldLink RX11 228 "PeckYard$Groups" "size" "I" ∈ wsX11_groups := by decide +kernel
theorem kX11_groups_iX3 : ∀ w ∈ u_ws RX3 TX3 5, w ∈ wsX11_groups := by decide +kernel
def fX11_groups  (sg : Sg) : Option (Int64 × Sg) :=
  bnd1 (fX3_settle sg) (fun sg1 => some ((sg1 7 2).toInt64, sg1))
set_option maxHeartbeats 4000000 in
set_option maxRecDepth 100000 in
theorem tX11_groups_0 (C : Cx p s m args meth c cX11_groups 1 RX11 wsX11_groups (some .long) D vwCl (tysC T) A true nwL) {ro : Int64} {so : Sg}   : ∀ (sg : Sg), ∀ (H : Heap) (locs : List Loc) (ls : Array Slot), WS ZC D vwCl T ad sg lg A s.heap H locs → lv_has ls 1 [(0, .ref (ad 0))] → fX11_groups sg = some (ro, so) → W p l e rmX11_groups s m args below meth c H locs 0 0 (MQ below (QL ZC D vwCl T (tysC T) A (fun z => ad = z) ro so lg) args s 0 0 A) (F0 m 0 ls []) := by
  obtain ⟨⟨hx, hb, hml, hown, hts⟩, hr, hlk, hK, hA, hsp⟩ := id C
  intro sg H locs ls hw hl h
  unfold fX11_groups at h
  refine lv_aload_n hx hb dX11_groups_0 rfl (lv_at hl 0 rfl) ?_
  refine r_getR (ci := 11) (C := RX11) (U := TX11) (N := 9) hx hb hts kX11_groups_iX11 hown hK hw 0 (by decide) rfl rfl 6 (by decide) 7 rfl (hts _ kX11_groups_f58) (fun _ h9 => h9) dX11_groups_1 ?_
  obtain ⟨sg1, hq2, h2⟩ := bnd1_some h
  replace h := h2
  clear h2
  refine r_cVv (As := []) (rest := []) C hw 7 (by decide) (ci := 3) rfl rfl (mX3_settle l D T ad lg H.size sg hq2) (cwV 0 hts gX11_groups_X3_settle rfl rfl rfl (by decide +kernel) ⟨Nat.le_of_ble_eq_true rfl, Nat.le_of_ble_eq_true rfl⟩) rfl hl.1 rfl (Nat.le_of_ble_eq_true rfl) dX11_groups_4 ⟨Nat.le_of_ble_eq_true rfl, Nat.le_of_ble_eq_true rfl⟩ (fun ad' H locs hp hw => ?_)
  subst hp
  refine W.widen (k := 0) (n := 0) (by decide) (by decide) ?_
  refine lv_aload_n hx hb dX11_groups_7 rfl (lv_at hl 0 rfl) ?_
  refine r_getR (ci := 11) (C := RX11) (U := TX11) (N := 9) hx hb hts kX11_groups_iX11 hown hK hw 0 (by decide) rfl rfl 6 (by decide) 7 rfl (hts _ kX11_groups_f58) (fun _ h9 => h9) dX11_groups_8 ?_
  refine r_getI (ci := 3) (C := RX3) (U := TX3) (N := 5) hx hb hts kX11_groups_iX3 hown hK hw 7 (by decide) rfl rfl 2 (by decide) rfl (hts _ kX11_groups_f228) (fun _ h9 => h9) dX11_groups_11 ?_
  refine lv_i2l (v := (sg1 7 2).toInt64) hx hb dX11_groups_14 rfl ?_
  cases h
  exact r_lret C hw rfl (by decide) (by decide) dX11_groups_15
theorem mX11_groups (l : Launch) (D : va_G) (T : Nat → ClassId) (ad : Nat → Nat) (lg : Lg) (sz : Nat)   (sg : Sg) {ro : Int64} {so : Sg} (h : fX11_groups sg = some (ro, so)) : Met l yX11_groups wsX11_groups rmX11_groups (PreZ ZC D vwCl T (tysC T) ad sg lg true nwL [.ref (ad 0)] sz) (QL ZC D vwCl T (tysC T) (va_A (zwd ZC T ad sg lg) sz) (fun z => ad = z) ro so lg) 0 0 (va_A (zwd ZC T ad sg lg) sz) :=
  metZ [.ref (ad 0)] sz (by decide) rfl (Nat.le_of_ble_eq_true rfl) (fun p e s m below meth c ls C hw hl => tX11_groups_0 C sg _ _ _ hw hl h)
-- PeckYard.groupOf(I)J
def rmX11_groupOf : Room := { frames := 4, cells := 0, slots := 0, locals := 91 }
theorem kX11_groupOf_f10 : Cond.fieldLink RX11 10 "PeckYard" "flock" "LPeckYard$Flock;" ∈ wsX11_groupOf := by decide +kernel
theorem kX11_groupOf_iX11 : ∀ w ∈ u_ws RX11 TX11 9, w ∈ wsX11_groupOf := by decide +kernel
theorem kX11_groupOf_f58 : Cond.fieldLink RX11 58 "PeckYard" "groupings" "LPeckYard$Groups;" ∈ wsX11_groupOf := by decide +kernel
theorem kX11_groupOf_f229 : Cond.fieldLink RX11 229 "PeckYard$Groups" "groupAt" "[I" ∈ wsX11_groupOf := by decide +kernel
theorem kX11_groupOf_iX3 : ∀ w ∈ u_ws RX3 TX3 5, w ∈ wsX11_groupOf := by decide +kernel
theorem kX11_groupOf_f28 : Cond.fieldLink RX11 28 "PeckYard" "muster" "LPeckYard$Muster;" ∈ wsX11_groupOf := by decide +kernel
theorem kX11_groupOf_f181 : Cond.fieldLink RX11 181 "PeckYard$Muster" "slotOf" "[I" ∈ wsX11_groupOf := by decide +kernel
theorem kX11_groupOf_iX8 : ∀ w ∈ u_ws RX8 TX8 10, w ∈ wsX11_groupOf := by decide +kernel
theorem kX11_groupOf_c140 : Cond.constantLong RX11 140 (-2000000005) ∈ wsX11_groupOf := by decide +kernel
theorem kX11_groupOf_c88 : Cond.constantLong RX11 88 (-2000000001) ∈ wsX11_groupOf := by decide +kernel
def fX11_groupOf  (v1 : Int32) (sg : Sg) : Option (Int64 × Sg) :=
  bnd2 (fX2_has v1 sg) (fun y1 sg2 => (if y1 = 0 then some ((-2000000001 : Int64), sg2) else bnd2 (fX2_isCounted v1 sg2) (fun y5 sg6 => (if y5 = 0 then some ((-2000000005 : Int64), sg6) else bnd1 (fX3_settle sg6) (fun sg9 => gin v1 12 (lt (sg9 18 v1.toNatClampNeg) (fun x12 => gin x12 12 (some ((sg9 35 x12.toNatClampNeg).toInt64, sg9)))))))))
set_option maxHeartbeats 4000000 in
set_option maxRecDepth 100000 in
theorem tX11_groupOf_0 (C : Cx p s m args meth c cX11_groupOf 2 RX11 wsX11_groupOf (some .long) D vwCl (tysC T) A true nwL) {ro : Int64} {so : Sg}   : ∀ (v1 : Int32) (sg : Sg), ∀ (H : Heap) (locs : List Loc) (ls : Array Slot), WS ZC D vwCl T ad sg lg A s.heap H locs → lv_has ls 2 [(0, .ref (ad 0)), (1, .int v1)] → fX11_groupOf v1 sg = some (ro, so) → W p l e rmX11_groupOf s m args below meth c H locs 0 0 (MQ below (QL ZC D vwCl T (tysC T) A (fun z => ad = z) ro so lg) args s 0 0 A) (F0 m 0 ls []) := by
  obtain ⟨⟨hx, hb, hml, hown, hts⟩, hr, hlk, hK, hA, hsp⟩ := id C
  intro v1 sg H locs ls hw hl h
  unfold fX11_groupOf at h
  refine lv_aload_n hx hb dX11_groupOf_0 rfl (lv_at hl 0 rfl) ?_
  refine r_getR (ci := 11) (C := RX11) (U := TX11) (N := 9) hx hb hts kX11_groupOf_iX11 hown hK hw 0 (by decide) rfl rfl 0 (by decide) 1 rfl (hts _ kX11_groupOf_f10) (fun _ h9 => h9) dX11_groupOf_1 ?_
  refine lv_iload_n hx hb dX11_groupOf_4 rfl (lv_at hl 1 rfl) ?_
  obtain ⟨y1, sg2, hq3, h2⟩ := bnd2_some h
  replace h := h2
  clear h2
  refine r_cVi (As := [.int v1]) (rest := []) C hw 1 (by decide) (ci := 2) rfl rfl (mX2_has l D T ad lg H.size v1 sg hq3) (cwV 1 hts gX11_groupOf_X2_has rfl rfl rfl (by decide +kernel) ⟨Nat.le_of_ble_eq_true rfl, Nat.le_of_ble_eq_true rfl⟩) rfl hl.1 rfl (Nat.le_of_ble_eq_true rfl) dX11_groupOf_5 ⟨Nat.le_of_ble_eq_true rfl, Nat.le_of_ble_eq_true rfl⟩ (fun ad' H locs hp hw => ?_)
  subst hp
  refine W.widen (k := 0) (n := 0) (by decide) (by decide) ?_
  refine lv_if_ne (tgt := 15) hx hb dX11_groupOf_8 (by decide) (fun c4 => ?_) (fun c4 => ?_)
  · replace h := ite_f h c4
    refine lv_aload_n hx hb dX11_groupOf_15 rfl (lv_at hl 0 rfl) ?_
    refine r_getR (ci := 11) (C := RX11) (U := TX11) (N := 9) hx hb hts kX11_groupOf_iX11 hown hK hw 0 (by decide) rfl rfl 0 (by decide) 1 rfl (hts _ kX11_groupOf_f10) (fun _ h9 => h9) dX11_groupOf_16 ?_
    refine lv_iload_n hx hb dX11_groupOf_19 rfl (lv_at hl 1 rfl) ?_
    obtain ⟨y5, sg6, hq7, h2⟩ := bnd2_some h
    replace h := h2
    clear h2
    refine r_cVi (As := [.int v1]) (rest := []) C hw 1 (by decide) (ci := 2) rfl rfl (mX2_isCounted l D T ad lg H.size v1 sg2 hq7) (cwV 1 hts gX11_groupOf_X2_isCounted rfl rfl rfl (by decide +kernel) ⟨Nat.le_of_ble_eq_true rfl, Nat.le_of_ble_eq_true rfl⟩) rfl hl.1 rfl (Nat.le_of_ble_eq_true rfl) dX11_groupOf_20 ⟨Nat.le_of_ble_eq_true rfl, Nat.le_of_ble_eq_true rfl⟩ (fun ad' H locs hp hw => ?_)
    subst hp
    refine W.widen (k := 0) (n := 0) (by decide) (by decide) ?_
    refine lv_if_ne (tgt := 30) hx hb dX11_groupOf_23 (by decide) (fun c8 => ?_) (fun c8 => ?_)
    · replace h := ite_f h c8
      refine lv_aload_n hx hb dX11_groupOf_30 rfl (lv_at hl 0 rfl) ?_
      refine r_getR (ci := 11) (C := RX11) (U := TX11) (N := 9) hx hb hts kX11_groupOf_iX11 hown hK hw 0 (by decide) rfl rfl 6 (by decide) 7 rfl (hts _ kX11_groupOf_f58) (fun _ h9 => h9) dX11_groupOf_31 ?_
      obtain ⟨sg9, hq10, h2⟩ := bnd1_some h
      replace h := h2
      clear h2
      refine r_cVv (As := []) (rest := []) C hw 7 (by decide) (ci := 3) rfl rfl (mX3_settle l D T ad lg H.size sg6 hq10) (cwV 0 hts gX11_groupOf_X3_settle rfl rfl rfl (by decide +kernel) ⟨Nat.le_of_ble_eq_true rfl, Nat.le_of_ble_eq_true rfl⟩) rfl hl.1 rfl (Nat.le_of_ble_eq_true rfl) dX11_groupOf_34 ⟨Nat.le_of_ble_eq_true rfl, Nat.le_of_ble_eq_true rfl⟩ (fun ad' H locs hp hw => ?_)
      subst hp
      refine W.widen (k := 0) (n := 0) (by decide) (by decide) ?_
      refine lv_aload_n hx hb dX11_groupOf_37 rfl (lv_at hl 0 rfl) ?_
      refine r_getR (ci := 11) (C := RX11) (U := TX11) (N := 9) hx hb hts kX11_groupOf_iX11 hown hK hw 0 (by decide) rfl rfl 6 (by decide) 7 rfl (hts _ kX11_groupOf_f58) (fun _ h9 => h9) dX11_groupOf_38 ?_
      refine r_getR (ci := 3) (C := RX3) (U := TX3) (N := 5) hx hb hts kX11_groupOf_iX3 hown hK hw 7 (by decide) rfl rfl 3 (by decide) 35 rfl (hts _ kX11_groupOf_f229) (fun _ h9 => h9) dX11_groupOf_41 ?_
      refine lv_aload_n hx hb dX11_groupOf_44 rfl (lv_at hl 0 rfl) ?_
      refine r_getR (ci := 11) (C := RX11) (U := TX11) (N := 9) hx hb hts kX11_groupOf_iX11 hown hK hw 0 (by decide) rfl rfl 2 (by decide) 3 rfl (hts _ kX11_groupOf_f28) (fun _ h9 => h9) dX11_groupOf_45 ?_
      refine r_getR (ci := 8) (C := RX8) (U := TX8) (N := 10) hx hb hts kX11_groupOf_iX8 hown hK hw 3 (by decide) rfl rfl 4 (by decide) 18 rfl (hts _ kX11_groupOf_f181) (fun _ h9 => h9) dX11_groupOf_48 ?_
      refine lv_iload_n hx hb dX11_groupOf_51 rfl (lv_at hl 1 rfl) ?_
      have hi11 := (gin_some h).1
      replace h := (gin_some h).2
      refine r_iald hx hb hK hw 18 0 12 (by decide) rfl rfl rfl hi11 dX11_groupOf_52 ?_
      refine lv_topi (fun x12 ex12 => ?_)
      replace h := lt_get h x12 ex12
      have hi13 := (gin_some h).1
      replace h := (gin_some h).2
      refine r_iald hx hb hK hw 35 0 12 (by decide) rfl rfl rfl hi13 dX11_groupOf_53 ?_
      refine lv_i2l (v := (sg9 35 x12.toNatClampNeg).toInt64) hx hb dX11_groupOf_54 rfl ?_
      cases h
      exact r_lret C hw rfl (by decide) (by decide) dX11_groupOf_55
    · replace h := ite_t h c8
      refine lv_ldc2 hx hb hown (hts _ kX11_groupOf_c140) dX11_groupOf_26 ?_
      cases h
      exact r_lret C hw rfl (by decide) (by decide) dX11_groupOf_29
  · replace h := ite_t h c4
    refine lv_ldc2 hx hb hown (hts _ kX11_groupOf_c88) dX11_groupOf_11 ?_
    cases h
    exact r_lret C hw rfl (by decide) (by decide) dX11_groupOf_14
theorem mX11_groupOf (l : Launch) (D : va_G) (T : Nat → ClassId) (ad : Nat → Nat) (lg : Lg) (sz : Nat)   (v1 : Int32) (sg : Sg) {ro : Int64} {so : Sg} (h : fX11_groupOf v1 sg = some (ro, so)) : Met l yX11_groupOf wsX11_groupOf rmX11_groupOf (PreZ ZC D vwCl T (tysC T) ad sg lg true nwL [.ref (ad 0), .int v1] sz) (QL ZC D vwCl T (tysC T) (va_A (zwd ZC T ad sg lg) sz) (fun z => ad = z) ro so lg) 0 0 (va_A (zwd ZC T ad sg lg) sz) :=
  metZ [.ref (ad 0), .int v1] sz (by decide) rfl (Nat.le_of_ble_eq_true rfl) (fun p e s m below meth c ls C hw hl => tX11_groupOf_0 C v1 sg _ _ _ hw hl h)
-- PeckYard$Orders.loosen()V
def rmX9_loosen : Room := { frames := 1, cells := 1, slots := 4096, locals := 22 }
theorem kX9_loosen_f38 : Cond.fieldLink RX9 38 "PeckYard$Orders" "muster" "LPeckYard$Muster;" ∈ wsX9_loosen := by decide +kernel
theorem kX9_loosen_iX9 : ∀ w ∈ u_ws RX9 TX9 11, w ∈ wsX9_loosen := by decide +kernel
theorem kX9_loosen_f28 : Cond.fieldLink RX9 28 "PeckYard$Orders" "looseRest" "[I" ∈ wsX9_loosen := by decide +kernel
theorem kX9_loosen_f120 : Cond.fieldLink RX9 120 "PeckYard$Orders" "looseLeast" "I" ∈ wsX9_loosen := by decide +kernel
theorem kX9_loosen_c71 : Cond.constant RX9 71 (1000000000) ∈ wsX9_loosen := by decide +kernel
theorem kX9_loosen_f47 : Cond.fieldLink RX9 47 "PeckYard$Orders" "halves" "LPeckYard$Halves;" ∈ wsX9_loosen := by decide +kernel
theorem kX9_loosen_arI : Cond.arrayClass .int ∈ wsX9_loosen := by decide +kernel
def fX9_loosen_123 (r37 : (Int32 × Int32 × Sg) → Option (Sg)) (v1 : Int32) (v2 : Int32) (v3 : Int32) (sg : Sg) : Option (Sg) :=
  gin v2 ((sg 99 65).toNatClampNeg) (lt (up2 sg 65 v2.toNatClampNeg v3) (fun sg2 => lt (v2 + (-1 : Int32)) (fun x3 => r37 (v1, x3, sg2))))
set_option maxHeartbeats 4000000 in
set_option maxRecDepth 100000 in
theorem tX9_loosen_123 (C : Cx p s m args meth c cX9_loosen 7 RX9 wsX9_loosen none D vwCl (tysC T) A true nwL) {so : Sg} {r37 : (Int32 × Int32 × Sg) → Option (Sg)} (hr37 : ∀ (v1 : Int32) (v2 : Int32) (sg : Sg), r37 (v1, v2, sg) = some so → ∀ (g : Nat → Nat) (H : Heap) (locs : List Loc) (ls : Array Slot), WS ZC D vwCl T (adr a g) sg lg A s.heap H locs → lv_has ls 7 [(0, .ref ((adr a g) 4)), (1, .int v1), (2, .int v2)] → W p l e rmX9_loosen s m args below meth c H locs 1 4096 (MQ below (QV ZC D vwCl T (tysC T) A (fun z => ∃ g' : Nat → Nat, z = adr a g') so lg) args s 1 4096 A) (F0 m 37 ls [])) : ∀ (v1 : Int32) (v2 : Int32) (v3 : Int32) (sg : Sg), ∀ (g : Nat → Nat) (H : Heap) (locs : List Loc) (ls : Array Slot), WS ZC D vwCl T (adr a g) sg lg A s.heap H locs → lv_has ls 7 [(0, .ref ((adr a g) 4)), (1, .int v1), (2, .int v2), (3, .int v3)] → fX9_loosen_123 r37 v1 v2 v3 sg = some so → W p l e rmX9_loosen s m args below meth c H locs 1 4096 (MQ below (QV ZC D vwCl T (tysC T) A (fun z => ∃ g' : Nat → Nat, z = adr a g') so lg) args s 1 4096 A) (F0 m 123 ls []) := by
  obtain ⟨⟨hx, hb, hml, hown, hts⟩, hr, hlk, hK, hA, hsp⟩ := id C
  intro v1 v2 v3 sg g H locs ls hw hl h
  unfold fX9_loosen_123 at h
  refine lv_aload_n hx hb dX9_loosen_123 rfl (lv_at hl 0 rfl) ?_
  refine r_getR (ci := 9) (C := RX9) (U := TX9) (N := 11) hx hb hts kX9_loosen_iX9 hown hK hw 4 (by decide) rfl rfl 8 (by decide) 65 rfl (hts _ kX9_loosen_f28) (fun _ h9 => h9) dX9_loosen_124 ?_
  refine lv_iload_n hx hb dX9_loosen_127 rfl (lv_at hl 2 rfl) ?_
  refine lv_iload_n hx hb dX9_loosen_128 rfl (lv_at hl 3 rfl) ?_
  have hi1 := (gin_some h).1
  replace h := (gin_some h).2
  refine r_iast ZC_ok hx hb hK hw 65 0 ((sg 99 65).toNatClampNeg) (by decide) rfl rfl rfl hi1 dX9_loosen_129 (fun H locs sg2 esg2 hw => ?_)
  replace h := lt_get h sg2 esg2
  obtain ⟨x3, ex3⟩ : ∃ z : Int32, z = (v2 + (-1 : Int32)) := ⟨_, rfl⟩
  replace h := lt_get h x3 ex3
  refine lv_iinc (v := x3) (lv' := [(2, .int x3), (0, .ref ((adr a g) 4)), (1, .int v1), (3, .int v3)]) hx hb dX9_loosen_130 hl (k := 2) rfl (by rw [ex3]; rfl) (by decide) rfl (fun ls hl => ?_)
  refine lv_goto (tgt := 37) hx hb dX9_loosen_133 (by decide) ?_
  exact hr37 v1 x3 sg2 h g _ _ _ hw (lv_sub hl [1, 2, 0] rfl)
def fX9_loosen_111 (r37 : (Int32 × Int32 × Sg) → Option (Sg)) (r54 : (Int32 × Int32 × Int32 × Int32 × Int32 × Sg) → Option (Sg)) (v1 : Int32) (v2 : Int32) (v3 : Int32) (v4 : Int32) (v5 : Int32) (sg : Sg) : Option (Sg) :=
  lt (v4 + (1 : Int32)) (fun x1 => lt (v5 >>> ((1 : Int32) &&& 31)) (fun x2 => r54 (v1, v2, v3, x1, x2, sg)))
set_option maxHeartbeats 4000000 in
set_option maxRecDepth 100000 in
theorem tX9_loosen_111 (C : Cx p s m args meth c cX9_loosen 7 RX9 wsX9_loosen none D vwCl (tysC T) A true nwL) {so : Sg} {r37 : (Int32 × Int32 × Sg) → Option (Sg)} {r54 : (Int32 × Int32 × Int32 × Int32 × Int32 × Sg) → Option (Sg)} (hr37 : ∀ (v1 : Int32) (v2 : Int32) (sg : Sg), r37 (v1, v2, sg) = some so → ∀ (g : Nat → Nat) (H : Heap) (locs : List Loc) (ls : Array Slot), WS ZC D vwCl T (adr a g) sg lg A s.heap H locs → lv_has ls 7 [(0, .ref ((adr a g) 4)), (1, .int v1), (2, .int v2)] → W p l e rmX9_loosen s m args below meth c H locs 1 4096 (MQ below (QV ZC D vwCl T (tysC T) A (fun z => ∃ g' : Nat → Nat, z = adr a g') so lg) args s 1 4096 A) (F0 m 37 ls [])) (hr54 : ∀ (v1 : Int32) (v2 : Int32) (v3 : Int32) (v4 : Int32) (v5 : Int32) (sg : Sg), r54 (v1, v2, v3, v4, v5, sg) = some so → ∀ (g : Nat → Nat) (H : Heap) (locs : List Loc) (ls : Array Slot), WS ZC D vwCl T (adr a g) sg lg A s.heap H locs → lv_has ls 7 [(0, .ref ((adr a g) 4)), (1, .int v1), (2, .int v2), (3, .int v3), (4, .int v4), (5, .int v5)] → W p l e rmX9_loosen s m args below meth c H locs 1 4096 (MQ below (QV ZC D vwCl T (tysC T) A (fun z => ∃ g' : Nat → Nat, z = adr a g') so lg) args s 1 4096 A) (F0 m 54 ls [])) : ∀ (v1 : Int32) (v2 : Int32) (v3 : Int32) (v4 : Int32) (v5 : Int32) (sg : Sg), ∀ (g : Nat → Nat) (H : Heap) (locs : List Loc) (ls : Array Slot), WS ZC D vwCl T (adr a g) sg lg A s.heap H locs → lv_has ls 7 [(0, .ref ((adr a g) 4)), (1, .int v1), (2, .int v2), (3, .int v3), (4, .int v4), (5, .int v5)] → fX9_loosen_111 r37 r54 v1 v2 v3 v4 v5 sg = some so → W p l e rmX9_loosen s m args below meth c H locs 1 4096 (MQ below (QV ZC D vwCl T (tysC T) A (fun z => ∃ g' : Nat → Nat, z = adr a g') so lg) args s 1 4096 A) (F0 m 111 ls []) := by
  obtain ⟨⟨hx, hb, hml, hown, hts⟩, hr, hlk, hK, hA, hsp⟩ := id C
  intro v1 v2 v3 v4 v5 sg g H locs ls hw hl h
  unfold fX9_loosen_111 at h
  obtain ⟨x1, ex1⟩ : ∃ z : Int32, z = (v4 + (1 : Int32)) := ⟨_, rfl⟩
  replace h := lt_get h x1 ex1
  refine lv_iinc (v := x1) (lv' := [(4, .int x1), (0, .ref ((adr a g) 4)), (1, .int v1), (2, .int v2), (3, .int v3), (5, .int v5)]) hx hb dX9_loosen_111 hl (k := 4) rfl (by rw [ex1]; rfl) (by decide) rfl (fun ls hl => ?_)
  refine lv_iload hx hb dX9_loosen_114 (lv_at hl 5 rfl) ?_
  refine lv_iconst (v := (1 : Int32)) hx hb dX9_loosen_116 (by decide) ?_
  refine lv_ishr hx hb dX9_loosen_117 ?_
  refine lv_topi (fun x2 ex2 => ?_)
  replace h := lt_get h x2 ex2
  refine lv_istore (lv' := [(5, .int x2), (4, .int x1), (0, .ref ((adr a g) 4)), (1, .int v1), (2, .int v2), (3, .int v3)]) hx hb dX9_loosen_118 hl (by decide) rfl (fun ls hl => ?_)
  refine lv_goto (tgt := 54) hx hb dX9_loosen_120 (by decide) ?_
  exact hr54 v1 v2 v3 x1 x2 sg h g _ _ _ hw (lv_sub hl [2, 3, 4, 5, 1, 0] rfl)
def fX9_loosen_110 (r37 : (Int32 × Int32 × Sg) → Option (Sg)) (r54 : (Int32 × Int32 × Int32 × Int32 × Int32 × Sg) → Option (Sg)) (v1 : Int32) (v2 : Int32) (v4 : Int32) (v5 : Int32) (w0 : Int32) (sg : Sg) : Option (Sg) :=
  fX9_loosen_111 r37 r54 v1 v2 w0 v4 v5 sg
set_option maxHeartbeats 4000000 in
set_option maxRecDepth 100000 in
theorem tX9_loosen_110 (C : Cx p s m args meth c cX9_loosen 7 RX9 wsX9_loosen none D vwCl (tysC T) A true nwL) {so : Sg} {r37 : (Int32 × Int32 × Sg) → Option (Sg)} {r54 : (Int32 × Int32 × Int32 × Int32 × Int32 × Sg) → Option (Sg)} (hr37 : ∀ (v1 : Int32) (v2 : Int32) (sg : Sg), r37 (v1, v2, sg) = some so → ∀ (g : Nat → Nat) (H : Heap) (locs : List Loc) (ls : Array Slot), WS ZC D vwCl T (adr a g) sg lg A s.heap H locs → lv_has ls 7 [(0, .ref ((adr a g) 4)), (1, .int v1), (2, .int v2)] → W p l e rmX9_loosen s m args below meth c H locs 1 4096 (MQ below (QV ZC D vwCl T (tysC T) A (fun z => ∃ g' : Nat → Nat, z = adr a g') so lg) args s 1 4096 A) (F0 m 37 ls [])) (hr54 : ∀ (v1 : Int32) (v2 : Int32) (v3 : Int32) (v4 : Int32) (v5 : Int32) (sg : Sg), r54 (v1, v2, v3, v4, v5, sg) = some so → ∀ (g : Nat → Nat) (H : Heap) (locs : List Loc) (ls : Array Slot), WS ZC D vwCl T (adr a g) sg lg A s.heap H locs → lv_has ls 7 [(0, .ref ((adr a g) 4)), (1, .int v1), (2, .int v2), (3, .int v3), (4, .int v4), (5, .int v5)] → W p l e rmX9_loosen s m args below meth c H locs 1 4096 (MQ below (QV ZC D vwCl T (tysC T) A (fun z => ∃ g' : Nat → Nat, z = adr a g') so lg) args s 1 4096 A) (F0 m 54 ls [])) : ∀ (v1 : Int32) (v2 : Int32) (v4 : Int32) (v5 : Int32) (w0 : Int32) (sg : Sg), ∀ (g : Nat → Nat) (H : Heap) (locs : List Loc) (ls : Array Slot), WS ZC D vwCl T (adr a g) sg lg A s.heap H locs → lv_has ls 7 [(0, .ref ((adr a g) 4)), (1, .int v1), (2, .int v2), (4, .int v4), (5, .int v5)] → fX9_loosen_110 r37 r54 v1 v2 v4 v5 w0 sg = some so → W p l e rmX9_loosen s m args below meth c H locs 1 4096 (MQ below (QV ZC D vwCl T (tysC T) A (fun z => ∃ g' : Nat → Nat, z = adr a g') so lg) args s 1 4096 A) (F0 m 110 ls [.int w0]) := by
  obtain ⟨⟨hx, hb, hml, hown, hts⟩, hr, hlk, hK, hA, hsp⟩ := id C
  intro v1 v2 v4 v5 w0 sg g H locs ls hw hl h
  unfold fX9_loosen_110 at h
  refine lv_istore_n (lv' := [(3, .int w0), (0, .ref ((adr a g) 4)), (1, .int v1), (2, .int v2), (4, .int v4), (5, .int v5)]) hx hb dX9_loosen_110 rfl hl (by decide) rfl (fun ls hl => ?_)
  exact tX9_loosen_111 C hr37 hr54 v1 v2 w0 v4 v5 sg g _ _ _ hw (lv_sub hl [1, 2, 3, 0, 4, 5] rfl) h
def fX9_loosen_54 (r37 : (Int32 × Int32 × Sg) → Option (Sg)) (r54 : (Int32 × Int32 × Int32 × Int32 × Int32 × Sg) → Option (Sg)) (v1 : Int32) (v2 : Int32) (v3 : Int32) (v4 : Int32) (v5 : Int32) (sg : Sg) : Option (Sg) :=
  (if (12 : Int32) ≤ v4 then fX9_loosen_123 r37 v1 v2 v3 sg else (if v5 = 0 then fX9_loosen_123 r37 v1 v2 v3 sg else (if (v5 &&& (1 : Int32)) = (1 : Int32) then lt (v2 ||| ((1 : Int32) <<< (v4 &&& 31))) (fun x4 => gin x4 ((sg 99 65).toNatClampNeg) (bnd2 (fX4_costBelow v2 v4 sg) (fun y6 sg7 => lt ((sg 65 x4.toNatClampNeg) + y6) (fun x9 => (if v3 ≤ x9 then fX9_loosen_110 r37 r54 v1 v2 v4 v5 v3 sg7 else fX9_loosen_110 r37 r54 v1 v2 v4 v5 x9 sg7))))) else fX9_loosen_111 r37 r54 v1 v2 v3 v4 v5 sg)))
set_option maxHeartbeats 4000000 in
set_option maxRecDepth 100000 in
theorem tX9_loosen_54 (C : Cx p s m args meth c cX9_loosen 7 RX9 wsX9_loosen none D vwCl (tysC T) A true nwL) {so : Sg} {r37 : (Int32 × Int32 × Sg) → Option (Sg)} {r54 : (Int32 × Int32 × Int32 × Int32 × Int32 × Sg) → Option (Sg)} (hr37 : ∀ (v1 : Int32) (v2 : Int32) (sg : Sg), r37 (v1, v2, sg) = some so → ∀ (g : Nat → Nat) (H : Heap) (locs : List Loc) (ls : Array Slot), WS ZC D vwCl T (adr a g) sg lg A s.heap H locs → lv_has ls 7 [(0, .ref ((adr a g) 4)), (1, .int v1), (2, .int v2)] → W p l e rmX9_loosen s m args below meth c H locs 1 4096 (MQ below (QV ZC D vwCl T (tysC T) A (fun z => ∃ g' : Nat → Nat, z = adr a g') so lg) args s 1 4096 A) (F0 m 37 ls [])) (hr54 : ∀ (v1 : Int32) (v2 : Int32) (v3 : Int32) (v4 : Int32) (v5 : Int32) (sg : Sg), r54 (v1, v2, v3, v4, v5, sg) = some so → ∀ (g : Nat → Nat) (H : Heap) (locs : List Loc) (ls : Array Slot), WS ZC D vwCl T (adr a g) sg lg A s.heap H locs → lv_has ls 7 [(0, .ref ((adr a g) 4)), (1, .int v1), (2, .int v2), (3, .int v3), (4, .int v4), (5, .int v5)] → W p l e rmX9_loosen s m args below meth c H locs 1 4096 (MQ below (QV ZC D vwCl T (tysC T) A (fun z => ∃ g' : Nat → Nat, z = adr a g') so lg) args s 1 4096 A) (F0 m 54 ls [])) : ∀ (v1 : Int32) (v2 : Int32) (v3 : Int32) (v4 : Int32) (v5 : Int32) (sg : Sg), ∀ (g : Nat → Nat) (H : Heap) (locs : List Loc) (ls : Array Slot), WS ZC D vwCl T (adr a g) sg lg A s.heap H locs → lv_has ls 7 [(0, .ref ((adr a g) 4)), (1, .int v1), (2, .int v2), (3, .int v3), (4, .int v4), (5, .int v5)] → fX9_loosen_54 r37 r54 v1 v2 v3 v4 v5 sg = some so → W p l e rmX9_loosen s m args below meth c H locs 1 4096 (MQ below (QV ZC D vwCl T (tysC T) A (fun z => ∃ g' : Nat → Nat, z = adr a g') so lg) args s 1 4096 A) (F0 m 54 ls []) := by
  obtain ⟨⟨hx, hb, hml, hown, hts⟩, hr, hlk, hK, hA, hsp⟩ := id C
  intro v1 v2 v3 v4 v5 sg g H locs ls hw hl h
  unfold fX9_loosen_54 at h
  refine lv_iload hx hb dX9_loosen_54 (lv_at hl 4 rfl) ?_
  refine lv_bipush (v := (12 : Int32)) hx hb dX9_loosen_56 (by decide) ?_
  refine lv_icmp_ge (tgt := 123) hx hb dX9_loosen_58 (by decide) (fun c1 => ?_) (fun c1 => ?_)
  · replace h := ite_t h c1
    exact tX9_loosen_123 C hr37 v1 v2 v3 sg g _ _ _ hw (lv_sub hl [0, 1, 2, 3] rfl) h
  · replace h := ite_f h c1
    refine lv_iload hx hb dX9_loosen_61 (lv_at hl 5 rfl) ?_
    refine lv_if_eq (tgt := 123) hx hb dX9_loosen_63 (by decide) (fun c2 => ?_) (fun c2 => ?_)
    · replace h := ite_t h c2
      exact tX9_loosen_123 C hr37 v1 v2 v3 sg g _ _ _ hw (lv_sub hl [0, 1, 2, 3] rfl) h
    · replace h := ite_f h c2
      refine lv_iload hx hb dX9_loosen_66 (lv_at hl 5 rfl) ?_
      refine lv_iconst (v := (1 : Int32)) hx hb dX9_loosen_68 (by decide) ?_
      refine lv_iand hx hb dX9_loosen_69 ?_
      refine lv_iconst (v := (1 : Int32)) hx hb dX9_loosen_70 (by decide) ?_
      refine lv_icmp_ne (tgt := 111) hx hb dX9_loosen_71 (by decide) (fun c3 => ?_) (fun c3 => ?_)
      · replace h := ite_f h c3
        exact tX9_loosen_111 C hr37 hr54 v1 v2 v3 v4 v5 sg g _ _ _ hw (lv_sub hl [0, 1, 2, 3, 4, 5] rfl) h
      · replace h := ite_t h c3
        refine lv_aload_n hx hb dX9_loosen_74 rfl (lv_at hl 0 rfl) ?_
        refine r_getR (ci := 9) (C := RX9) (U := TX9) (N := 11) hx hb hts kX9_loosen_iX9 hown hK hw 4 (by decide) rfl rfl 8 (by decide) 65 rfl (hts _ kX9_loosen_f28) (fun _ h9 => h9) dX9_loosen_75 ?_
        refine lv_iload_n hx hb dX9_loosen_78 rfl (lv_at hl 2 rfl) ?_
        refine lv_iconst (v := (1 : Int32)) hx hb dX9_loosen_79 (by decide) ?_
        refine lv_iload hx hb dX9_loosen_80 (lv_at hl 4 rfl) ?_
        refine lv_ishl hx hb dX9_loosen_82 ?_
        refine lv_ior hx hb dX9_loosen_83 ?_
        refine lv_topi (fun x4 ex4 => ?_)
        replace h := lt_get h x4 ex4
        have hi5 := (gin_some h).1
        replace h := (gin_some h).2
        refine r_iald hx hb hK hw 65 0 ((sg 99 65).toNatClampNeg) (by decide) rfl rfl rfl hi5 dX9_loosen_84 ?_
        refine lv_aload_n hx hb dX9_loosen_85 rfl (lv_at hl 0 rfl) ?_
        refine r_getR (ci := 9) (C := RX9) (U := TX9) (N := 11) hx hb hts kX9_loosen_iX9 hown hK hw 4 (by decide) rfl rfl 1 (by decide) 10 rfl (hts _ kX9_loosen_f47) (fun _ h9 => h9) dX9_loosen_86 ?_
        refine lv_iload_n hx hb dX9_loosen_89 rfl (lv_at hl 2 rfl) ?_
        refine lv_iload hx hb dX9_loosen_90 (lv_at hl 4 rfl) ?_
        obtain ⟨y6, sg7, hq8, h2⟩ := bnd2_some h
        replace h := h2
        clear h2
        refine r_cVi (As := [.int v2, .int v4]) (rest := [.int (sg 65 x4.toNatClampNeg)]) C hw 10 (by decide) (ci := 4) rfl rfl (mX4_costBelow l D T (adr a g) lg H.size v2 v4 sg hq8) (cwV 2 hts gX9_loosen_X4_costBelow rfl rfl rfl (by decide +kernel) ⟨Nat.le_of_ble_eq_true rfl, Nat.le_of_ble_eq_true rfl⟩) rfl hl.1 rfl (Nat.le_of_ble_eq_true rfl) dX9_loosen_92 ⟨Nat.le_of_ble_eq_true rfl, Nat.le_of_ble_eq_true rfl⟩ (fun ad' H locs hp hw => ?_)
        subst hp
        refine W.widen (k := 1) (n := 4096) (by decide) (by decide) ?_
        refine lv_iadd hx hb dX9_loosen_95 ?_
        refine lv_topi (fun x9 ex9 => ?_)
        replace h := lt_get h x9 ex9
        refine lv_istore (lv' := [(6, .int x9), (0, .ref ((adr a g) 4)), (1, .int v1), (2, .int v2), (3, .int v3), (4, .int v4), (5, .int v5)]) hx hb dX9_loosen_96 hl (by decide) rfl (fun ls hl => ?_)
        refine lv_iload hx hb dX9_loosen_98 (lv_at hl 0 rfl) ?_
        refine lv_iload_n hx hb dX9_loosen_100 rfl (lv_at hl 4 rfl) ?_
        refine lv_icmp_ge (tgt := 109) hx hb dX9_loosen_101 (by decide) (fun c10 => ?_) (fun c10 => ?_)
        · replace h := ite_t h c10
          refine lv_iload_n hx hb dX9_loosen_109 rfl (lv_at hl 4 rfl) ?_
          exact tX9_loosen_110 C hr37 hr54 v1 v2 v4 v5 v3 sg7 g _ _ _ hw (lv_sub hl [1, 2, 3, 5, 6] rfl) h
        · replace h := ite_f h c10
          refine lv_iload hx hb dX9_loosen_104 (lv_at hl 0 rfl) ?_
          refine lv_goto (tgt := 110) hx hb dX9_loosen_106 (by decide) ?_
          exact tX9_loosen_110 C hr37 hr54 v1 v2 v4 v5 x9 sg7 g _ _ _ hw (lv_sub hl [1, 2, 3, 5, 6] rfl) h
def LX9_loosen_54 (r37 : (Int32 × Int32 × Sg) → Option (Sg)) : (Int32 × Int32 × Int32 × Int32 × Int32 × Sg) → Option (Sg) := loop (fun rec z => fX9_loosen_54 r37 rec z.1 z.2.1 z.2.2.1 z.2.2.2.1 z.2.2.2.2.1 z.2.2.2.2.2)
theorem TX9_loosen_54 (C : Cx p s m args meth c cX9_loosen 7 RX9 wsX9_loosen none D vwCl (tysC T) A true nwL) {so : Sg} {r37 : (Int32 × Int32 × Sg) → Option (Sg)} (hr37 : ∀ (v1 : Int32) (v2 : Int32) (sg : Sg), r37 (v1, v2, sg) = some so → ∀ (g : Nat → Nat) (H : Heap) (locs : List Loc) (ls : Array Slot), WS ZC D vwCl T (adr a g) sg lg A s.heap H locs → lv_has ls 7 [(0, .ref ((adr a g) 4)), (1, .int v1), (2, .int v2)] → W p l e rmX9_loosen s m args below meth c H locs 1 4096 (MQ below (QV ZC D vwCl T (tysC T) A (fun z => ∃ g' : Nat → Nat, z = adr a g') so lg) args s 1 4096 A) (F0 m 37 ls [])) : ∀ (v1 : Int32) (v2 : Int32) (v3 : Int32) (v4 : Int32) (v5 : Int32) (sg : Sg), LX9_loosen_54 r37 (v1, v2, v3, v4, v5, sg) = some so → ∀ (g : Nat → Nat) (H : Heap) (locs : List Loc) (ls : Array Slot), WS ZC D vwCl T (adr a g) sg lg A s.heap H locs → lv_has ls 7 [(0, .ref ((adr a g) 4)), (1, .int v1), (2, .int v2), (3, .int v3), (4, .int v4), (5, .int v5)] → W p l e rmX9_loosen s m args below meth c H locs 1 4096 (MQ below (QV ZC D vwCl T (tysC T) A (fun z => ∃ g' : Nat → Nat, z = adr a g') so lg) args s 1 4096 A) (F0 m 54 ls []) := by
  have key : ∀ z : (Int32 × Int32 × Int32 × Int32 × Int32 × Sg), LX9_loosen_54 r37 z = some so → ∀ (g : Nat → Nat) (H : Heap) (locs : List Loc) (ls : Array Slot), WS ZC D vwCl T (adr a g) z.2.2.2.2.2 lg A s.heap H locs → lv_has ls 7 [(0, .ref ((adr a g) 4)), (1, .int z.1), (2, .int z.2.1), (3, .int z.2.2.1), (4, .int z.2.2.2.1), (5, .int z.2.2.2.2.1)] → W p l e rmX9_loosen s m args below meth c H locs 1 4096 (MQ below (QV ZC D vwCl T (tysC T) A (fun z => ∃ g' : Nat → Nat, z = adr a g') so lg) args s 1 4096 A) (F0 m 54 ls []) := by
    intro z h
    unfold LX9_loosen_54 at h
    exact loop_ind (fun rec z => fX9_loosen_54 r37 rec z.1 z.2.1 z.2.2.1 z.2.2.2.1 z.2.2.2.2.1 z.2.2.2.2.2) (y := so) (P := fun z => ∀ (g : Nat → Nat) (H : Heap) (locs : List Loc) (ls : Array Slot), WS ZC D vwCl T (adr a g) z.2.2.2.2.2 lg A s.heap H locs → lv_has ls 7 [(0, .ref ((adr a g) 4)), (1, .int z.1), (2, .int z.2.1), (3, .int z.2.2.1), (4, .int z.2.2.2.1), (5, .int z.2.2.2.2.1)] → W p l e rmX9_loosen s m args below meth c H locs 1 4096 (MQ below (QV ZC D vwCl T (tysC T) A (fun z => ∃ g' : Nat → Nat, z = adr a g') so lg) args s 1 4096 A) (F0 m 54 ls [])) (fun rec hrec z h g H locs ls hw hl => tX9_loosen_54 C hr37 (fun v1 v2 v3 v4 v5 sg => hrec (v1, v2, v3, v4, v5, sg)) z.1 z.2.1 z.2.2.1 z.2.2.2.1 z.2.2.2.2.1 z.2.2.2.2.2 g H locs ls hw hl h) z h
  exact fun v1 v2 v3 v4 v5 sg => key (v1, v2, v3, v4, v5, sg)
def fX9_loosen_37 (r37 : (Int32 × Int32 × Sg) → Option (Sg)) (v1 : Int32) (v2 : Int32) (sg : Sg) : Option (Sg) :=
  (if v2 < 0 then gin (0 : Int32) ((sg 99 65).toNatClampNeg) (lt (sg 65 (0 : Int32).toNatClampNeg) (fun x3 => lt (up2 sg 4 5 x3) (fun sg4 => some sg4))) else lt (v1 &&& (v2 ^^^ (-1 : Int32))) (fun x5 => LX9_loosen_54 r37 (v1, v2, (1000000000 : Int32), (0 : Int32), x5, sg)))
set_option maxHeartbeats 4000000 in
set_option maxRecDepth 100000 in
theorem tX9_loosen_37 (C : Cx p s m args meth c cX9_loosen 7 RX9 wsX9_loosen none D vwCl (tysC T) A true nwL) {so : Sg} {r37 : (Int32 × Int32 × Sg) → Option (Sg)} (hr37 : ∀ (v1 : Int32) (v2 : Int32) (sg : Sg), r37 (v1, v2, sg) = some so → ∀ (g : Nat → Nat) (H : Heap) (locs : List Loc) (ls : Array Slot), WS ZC D vwCl T (adr a g) sg lg A s.heap H locs → lv_has ls 7 [(0, .ref ((adr a g) 4)), (1, .int v1), (2, .int v2)] → W p l e rmX9_loosen s m args below meth c H locs 1 4096 (MQ below (QV ZC D vwCl T (tysC T) A (fun z => ∃ g' : Nat → Nat, z = adr a g') so lg) args s 1 4096 A) (F0 m 37 ls [])) : ∀ (v1 : Int32) (v2 : Int32) (sg : Sg), ∀ (g : Nat → Nat) (H : Heap) (locs : List Loc) (ls : Array Slot), WS ZC D vwCl T (adr a g) sg lg A s.heap H locs → lv_has ls 7 [(0, .ref ((adr a g) 4)), (1, .int v1), (2, .int v2)] → fX9_loosen_37 r37 v1 v2 sg = some so → W p l e rmX9_loosen s m args below meth c H locs 1 4096 (MQ below (QV ZC D vwCl T (tysC T) A (fun z => ∃ g' : Nat → Nat, z = adr a g') so lg) args s 1 4096 A) (F0 m 37 ls []) := by
  obtain ⟨⟨hx, hb, hml, hown, hts⟩, hr, hlk, hK, hA, hsp⟩ := id C
  intro v1 v2 sg g H locs ls hw hl h
  unfold fX9_loosen_37 at h
  refine lv_iload_n hx hb dX9_loosen_37 rfl (lv_at hl 2 rfl) ?_
  refine lv_if_lt (tgt := 136) hx hb dX9_loosen_38 (by decide) (fun c1 => ?_) (fun c1 => ?_)
  · replace h := ite_t h c1
    refine lv_aload_n hx hb dX9_loosen_136 rfl (lv_at hl 0 rfl) ?_
    refine lv_aload_n hx hb dX9_loosen_137 rfl (lv_at hl 0 rfl) ?_
    refine r_getR (ci := 9) (C := RX9) (U := TX9) (N := 11) hx hb hts kX9_loosen_iX9 hown hK hw 4 (by decide) rfl rfl 8 (by decide) 65 rfl (hts _ kX9_loosen_f28) (fun _ h9 => h9) dX9_loosen_138 ?_
    refine lv_iconst (v := (0 : Int32)) hx hb dX9_loosen_141 (by decide) ?_
    have hi2 := (gin_some h).1
    replace h := (gin_some h).2
    refine r_iald hx hb hK hw 65 0 ((sg 99 65).toNatClampNeg) (by decide) rfl rfl rfl hi2 dX9_loosen_142 ?_
    refine lv_topi (fun x3 ex3 => ?_)
    replace h := lt_get h x3 ex3
    refine r_putI ZC_ok (ci := 9) (C := RX9) (U := TX9) (N := 11) (ty := .int) hx hb hts kX9_loosen_iX9 tyX9 tyX9_ok nmX9 hown hK hw 4 (by decide) rfl rfl 5 (by decide) rfl (hts _ kX9_loosen_f120) (fun _ h9 => h9) rfl (by decide +kernel) rfl rfl dX9_loosen_143 (fun H locs sg4 esg4 hw => ?_)
    replace h := lt_get h sg4 esg4
    cases h
    exact r_vret C hw ⟨_, rfl⟩ (by decide) (by decide) dX9_loosen_146
  · replace h := ite_f h c1
    refine lv_ldc hx hb hown (hts _ kX9_loosen_c71) dX9_loosen_41 ?_
    refine lv_istore_n (lv' := [(3, .int (1000000000 : Int32)), (0, .ref ((adr a g) 4)), (1, .int v1), (2, .int v2)]) hx hb dX9_loosen_43 rfl hl (by decide) rfl (fun ls hl => ?_)
    refine lv_iconst (v := (0 : Int32)) hx hb dX9_loosen_44 (by decide) ?_
    refine lv_istore (lv' := [(4, .int (0 : Int32)), (3, .int (1000000000 : Int32)), (0, .ref ((adr a g) 4)), (1, .int v1), (2, .int v2)]) hx hb dX9_loosen_45 hl (by decide) rfl (fun ls hl => ?_)
    refine lv_iload_n hx hb dX9_loosen_47 rfl (lv_at hl 3 rfl) ?_
    refine lv_iload_n hx hb dX9_loosen_48 rfl (lv_at hl 4 rfl) ?_
    refine lv_iconst (v := (-1 : Int32)) hx hb dX9_loosen_49 (by decide) ?_
    refine lv_ixor hx hb dX9_loosen_50 ?_
    refine lv_iand hx hb dX9_loosen_51 ?_
    refine lv_topi (fun x5 ex5 => ?_)
    replace h := lt_get h x5 ex5
    refine lv_istore (lv' := [(5, .int x5), (4, .int (0 : Int32)), (3, .int (1000000000 : Int32)), (0, .ref ((adr a g) 4)), (1, .int v1), (2, .int v2)]) hx hb dX9_loosen_52 hl (by decide) rfl (fun ls hl => ?_)
    exact TX9_loosen_54 C hr37 v1 v2 (1000000000 : Int32) (0 : Int32) x5 sg h g _ _ _ hw (lv_sub hl [3, 4, 5, 2, 1, 0] rfl)
def LX9_loosen_37  : (Int32 × Int32 × Sg) → Option (Sg) := loop (fun rec z => fX9_loosen_37 rec z.1 z.2.1 z.2.2)
theorem TX9_loosen_37 (C : Cx p s m args meth c cX9_loosen 7 RX9 wsX9_loosen none D vwCl (tysC T) A true nwL) {so : Sg}   : ∀ (v1 : Int32) (v2 : Int32) (sg : Sg), LX9_loosen_37 (v1, v2, sg) = some so → ∀ (g : Nat → Nat) (H : Heap) (locs : List Loc) (ls : Array Slot), WS ZC D vwCl T (adr a g) sg lg A s.heap H locs → lv_has ls 7 [(0, .ref ((adr a g) 4)), (1, .int v1), (2, .int v2)] → W p l e rmX9_loosen s m args below meth c H locs 1 4096 (MQ below (QV ZC D vwCl T (tysC T) A (fun z => ∃ g' : Nat → Nat, z = adr a g') so lg) args s 1 4096 A) (F0 m 37 ls []) := by
  have key : ∀ z : (Int32 × Int32 × Sg), LX9_loosen_37  z = some so → ∀ (g : Nat → Nat) (H : Heap) (locs : List Loc) (ls : Array Slot), WS ZC D vwCl T (adr a g) z.2.2 lg A s.heap H locs → lv_has ls 7 [(0, .ref ((adr a g) 4)), (1, .int z.1), (2, .int z.2.1)] → W p l e rmX9_loosen s m args below meth c H locs 1 4096 (MQ below (QV ZC D vwCl T (tysC T) A (fun z => ∃ g' : Nat → Nat, z = adr a g') so lg) args s 1 4096 A) (F0 m 37 ls []) := by
    intro z h
    unfold LX9_loosen_37 at h
    exact loop_ind (fun rec z => fX9_loosen_37 rec z.1 z.2.1 z.2.2) (y := so) (P := fun z => ∀ (g : Nat → Nat) (H : Heap) (locs : List Loc) (ls : Array Slot), WS ZC D vwCl T (adr a g) z.2.2 lg A s.heap H locs → lv_has ls 7 [(0, .ref ((adr a g) 4)), (1, .int z.1), (2, .int z.2.1)] → W p l e rmX9_loosen s m args below meth c H locs 1 4096 (MQ below (QV ZC D vwCl T (tysC T) A (fun z => ∃ g' : Nat → Nat, z = adr a g') so lg) args s 1 4096 A) (F0 m 37 ls [])) (fun rec hrec z h g H locs ls hw hl => tX9_loosen_37 C  (fun v1 v2 sg => hrec (v1, v2, sg)) z.1 z.2.1 z.2.2 g H locs ls hw hl h) z h
  exact fun v1 v2 sg => key (v1, v2, sg)
def fX9_loosen_26  (v1 : Int32) (sg : Sg) : Option (Sg) :=
  gin v1 ((sg 99 65).toNatClampNeg) (lt (up2 sg 65 v1.toNatClampNeg (0 : Int32)) (fun sg2 => lt (v1 - (1 : Int32)) (fun x3 => LX9_loosen_37 (v1, x3, sg2))))
set_option maxHeartbeats 4000000 in
set_option maxRecDepth 100000 in
theorem tX9_loosen_26 (C : Cx p s m args meth c cX9_loosen 7 RX9 wsX9_loosen none D vwCl (tysC T) A true nwL) {so : Sg}   : ∀ (v1 : Int32) (sg : Sg), ∀ (g : Nat → Nat) (H : Heap) (locs : List Loc) (ls : Array Slot), WS ZC D vwCl T (adr a g) sg lg A s.heap H locs → lv_has ls 7 [(0, .ref ((adr a g) 4)), (1, .int v1)] → fX9_loosen_26 v1 sg = some so → W p l e rmX9_loosen s m args below meth c H locs 1 4096 (MQ below (QV ZC D vwCl T (tysC T) A (fun z => ∃ g' : Nat → Nat, z = adr a g') so lg) args s 1 4096 A) (F0 m 26 ls []) := by
  obtain ⟨⟨hx, hb, hml, hown, hts⟩, hr, hlk, hK, hA, hsp⟩ := id C
  intro v1 sg g H locs ls hw hl h
  unfold fX9_loosen_26 at h
  refine lv_aload_n hx hb dX9_loosen_26 rfl (lv_at hl 0 rfl) ?_
  refine r_getR (ci := 9) (C := RX9) (U := TX9) (N := 11) hx hb hts kX9_loosen_iX9 hown hK hw 4 (by decide) rfl rfl 8 (by decide) 65 rfl (hts _ kX9_loosen_f28) (fun _ h9 => h9) dX9_loosen_27 ?_
  refine lv_iload_n hx hb dX9_loosen_30 rfl (lv_at hl 1 rfl) ?_
  refine lv_iconst (v := (0 : Int32)) hx hb dX9_loosen_31 (by decide) ?_
  have hi1 := (gin_some h).1
  replace h := (gin_some h).2
  refine r_iast ZC_ok hx hb hK hw 65 0 ((sg 99 65).toNatClampNeg) (by decide) rfl rfl rfl hi1 dX9_loosen_32 (fun H locs sg2 esg2 hw => ?_)
  replace h := lt_get h sg2 esg2
  refine lv_iload_n hx hb dX9_loosen_33 rfl (lv_at hl 1 rfl) ?_
  refine lv_iconst (v := (1 : Int32)) hx hb dX9_loosen_34 (by decide) ?_
  refine lv_isub hx hb dX9_loosen_35 ?_
  refine lv_topi (fun x3 ex3 => ?_)
  replace h := lt_get h x3 ex3
  refine lv_istore_n (lv' := [(2, .int x3), (0, .ref ((adr a g) 4)), (1, .int v1)]) hx hb dX9_loosen_36 rfl hl (by decide) rfl (fun ls hl => ?_)
  exact TX9_loosen_37 C v1 x3 sg2 h g _ _ _ hw (lv_sub hl [1, 2, 0] rfl)
def fX9_loosen  (sg : Sg) : Option (Sg) :=
  bnd2 (fX8_all sg) (fun y1 sg2 => (if y1 < (Int32.ofNat (sg2 99 65).toNatClampNeg) then fX9_loosen_26 y1 sg2 else lt (y1 + (1 : Int32)) (fun x5 => gnw x5 (lt (nw2 sg2 65 x5) (fun sg7 => fX9_loosen_26 y1 sg7)))))
set_option maxHeartbeats 4000000 in
set_option maxRecDepth 100000 in
theorem tX9_loosen_0 (C : Cx p s m args meth c cX9_loosen 7 RX9 wsX9_loosen none D vwCl (tysC T) A true nwL) {so : Sg}   : ∀ (sg : Sg), ∀ (g : Nat → Nat) (H : Heap) (locs : List Loc) (ls : Array Slot), WS ZC D vwCl T (adr a g) sg lg A s.heap H locs → lv_has ls 7 [(0, .ref ((adr a g) 4))] → fX9_loosen sg = some so → W p l e rmX9_loosen s m args below meth c H locs 0 0 (MQ below (QV ZC D vwCl T (tysC T) A (fun z => ∃ g' : Nat → Nat, z = adr a g') so lg) args s 1 4096 A) (F0 m 0 ls []) := by
  obtain ⟨⟨hx, hb, hml, hown, hts⟩, hr, hlk, hK, hA, hsp⟩ := id C
  intro sg g H locs ls hw hl h
  unfold fX9_loosen at h
  refine lv_aload_n hx hb dX9_loosen_0 rfl (lv_at hl 0 rfl) ?_
  refine r_getR (ci := 9) (C := RX9) (U := TX9) (N := 11) hx hb hts kX9_loosen_iX9 hown hK hw 4 (by decide) rfl rfl 0 (by decide) 3 rfl (hts _ kX9_loosen_f38) (fun _ h9 => h9) dX9_loosen_1 ?_
  obtain ⟨y1, sg2, hq3, h2⟩ := bnd2_some h
  replace h := h2
  clear h2
  refine r_cVi (As := []) (rest := []) C hw 3 (by decide) (ci := 8) rfl rfl (mX8_all l D T (adr a g) lg H.size sg hq3) (cwV 0 hts gX9_loosen_X8_all rfl rfl rfl (by decide +kernel) ⟨Nat.le_of_ble_eq_true rfl, Nat.le_of_ble_eq_true rfl⟩) rfl hl.1 rfl (Nat.le_of_ble_eq_true rfl) dX9_loosen_4 ⟨Nat.le_of_ble_eq_true rfl, Nat.le_of_ble_eq_true rfl⟩ (fun ad' H locs hp hw => ?_)
  subst hp
  refine W.widen (k := 0) (n := 0) (by decide) (by decide) ?_
  refine lv_istore_n (lv' := [(1, .int y1), (0, .ref ((adr a g) 4))]) hx hb dX9_loosen_7 rfl hl (by decide) rfl (fun ls hl => ?_)
  refine lv_aload_n hx hb dX9_loosen_8 rfl (lv_at hl 1 rfl) ?_
  refine r_getR (ci := 9) (C := RX9) (U := TX9) (N := 11) hx hb hts kX9_loosen_iX9 hown hK hw 4 (by decide) rfl rfl 8 (by decide) 65 rfl (hts _ kX9_loosen_f28) (fun _ h9 => h9) dX9_loosen_9 ?_
  refine r_alen hx hb hK hw 65 0 ((sg2 99 65).toNatClampNeg) (by decide) 0 rfl (by decide) rfl rfl (v := (Int32.ofNat (sg2 99 65).toNatClampNeg)) rfl dX9_loosen_12 ?_
  refine lv_iload_n hx hb dX9_loosen_13 rfl (lv_at hl 0 rfl) ?_
  refine lv_icmp_gt (tgt := 26) hx hb dX9_loosen_14 (by decide) (fun c4 => ?_) (fun c4 => ?_)
  · replace h := ite_t h c4
    refine W.widen (k := 1) (n := 4096) (by decide) (by decide) ?_
    exact tX9_loosen_26 C y1 sg2 g _ _ _ hw (lv_sub hl [1, 0] rfl) h
  · replace h := ite_f h c4
    refine lv_aload_n hx hb dX9_loosen_17 rfl (lv_at hl 1 rfl) ?_
    refine lv_iload_n hx hb dX9_loosen_18 rfl (lv_at hl 0 rfl) ?_
    refine lv_iconst (v := (1 : Int32)) hx hb dX9_loosen_19 (by decide) ?_
    refine lv_iadd hx hb dX9_loosen_20 ?_
    refine lv_topi (fun x5 ex5 => ?_)
    replace h := lt_get h x5 ex5
    have hw6 := (gnw_some h).1
    replace h := (gnw_some h).2
    refine r_new65 hx hb hts kX9_loosen_iX9 hown hK hw hA (hts _ kX9_loosen_arI) hw6 (hts _ kX9_loosen_f28) dX9_loosen_21 dX9_loosen_23 (by decide) (by decide) (fun g8 H locs sg7 esg7 hw => ?_)
    refine W.widen (k := 1) (n := 4096) (by omega) (by have := hw6.2; omega) ?_
    replace h := lt_get h sg7 esg7
    exact tX9_loosen_26 C y1 sg7 g8 _ _ _ hw (lv_sub hl [1, 0] rfl) h
theorem mX9_loosen (l : Launch) (D : va_G) (T : Nat → ClassId) (a g : Nat → Nat) (lg : Lg) (sz : Nat)   (sg : Sg) {so : Sg} (h : fX9_loosen sg = some so) : Met l yX9_loosen wsX9_loosen rmX9_loosen (PreZ ZC D vwCl T (tysC T) (adr a g) sg lg true nwL [.ref ((adr a g) 4)] sz) (QV ZC D vwCl T (tysC T) (va_A (zwd ZC T (adr a g) sg lg) sz) (fun z => ∃ g' : Nat → Nat, z = adr a g') so lg) 1 4096 (va_A (zwd ZC T (adr a g) sg lg) sz) :=
  metZ [.ref ((adr a g) 4)] sz (by decide) rfl (Nat.le_of_ble_eq_true rfl) (fun p e s m below meth c ls C hw hl => tX9_loosen_0 C sg g _ _ _ hw hl h)
end ZC
