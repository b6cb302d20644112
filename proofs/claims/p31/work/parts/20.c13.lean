section ZC
variable {p : Program} {l : Launch} {e : Env} {s : State} {m : MethodId} {args : Array Value} {below : List Frame} {meth : Method} {c : Code} {D : va_G} {T : Nat → ClassId} {A : Nat → Prop} {ad a : Nat → Nat} {lg : Lg}
-- PeckYard.better(I)J
def rmX11_better : Room := { frames := 4, cells := 0, slots := 0, locals := 96 }
theorem kX11_better_c88 : Cond.constantLong RX11 88 (-2000000001) ∈ wsX11_better := by decide +kernel
theorem kX11_better_f51 : Cond.fieldLink RX11 51 "PeckYard" "line" "LPeckYard$Line;" ∈ wsX11_better := by decide +kernel
theorem kX11_better_iX11 : ∀ w ∈ u_ws RX11 TX11 9, w ∈ wsX11_better := by decide +kernel
theorem kX11_better_f44 : Cond.fieldLink RX11 44 "PeckYard" "hand" "LPeckYard$Hand;" ∈ wsX11_better := by decide +kernel
theorem kX11_better_c113 : Cond.constantLong RX11 113 (-2000000002) ∈ wsX11_better := by decide +kernel
def fX11_better_56  (v2 : Int32) (sg : Sg) : Option (Int64 × Sg) :=
  bnd1 (fX7_writeTo sg) (fun sg1 => some (v2.toInt64, sg1))
set_option maxHeartbeats 4000000 in
set_option maxRecDepth 100000 in
theorem tX11_better_56 (C : Cx p s m args meth c cX11_better 3 RX11 wsX11_better (some .long) D vwCl (tysC T) A true nwL) {ro : Int64} {so : Sg}   : ∀ (v2 : Int32) (sg : Sg), ∀ (H : Heap) (locs : List Loc) (ls : Array Slot), WS ZC D vwCl T ad sg lg A s.heap H locs → lv_has ls 3 [(0, .ref (ad 0)), (2, .int v2)] → fX11_better_56 v2 sg = some (ro, so) → W p l e rmX11_better s m args below meth c H locs 0 0 (MQ below (QL ZC D vwCl T (tysC T) A (fun z => ad = z) ro so lg) args s 0 0 A) (F0 m 56 ls []) := by
  obtain ⟨⟨hx, hb, hml, hown, hts⟩, hr, hlk, hK, hA, hsp⟩ := id C
  intro v2 sg H locs ls hw hl h
  unfold fX11_better_56 at h
  refine lv_aload_n hx hb dX11_better_56 rfl (lv_at hl 0 rfl) ?_
  refine r_getR (ci := 11) (C := RX11) (U := TX11) (N := 9) hx hb hts kX11_better_iX11 hown hK hw 0 (by decide) rfl rfl 5 (by decide) 6 rfl (hts _ kX11_better_f51) (fun _ h9 => h9) dX11_better_57 ?_
  refine lv_aload_n hx hb dX11_better_60 rfl (lv_at hl 0 rfl) ?_
  refine r_getR (ci := 11) (C := RX11) (U := TX11) (N := 9) hx hb hts kX11_better_iX11 hown hK hw 0 (by decide) rfl rfl 4 (by decide) 5 rfl (hts _ kX11_better_f44) (fun _ h9 => h9) dX11_better_61 ?_
  obtain ⟨sg1, hq2, h2⟩ := bnd1_some h
  replace h := h2
  clear h2
  refine r_cVv (As := [.ref (ad 5)]) (rest := []) C hw 6 (by decide) (ci := 7) rfl rfl (mX7_writeTo l D T ad lg H.size sg hq2) (cwV 1 hts gX11_better_X7_writeTo rfl rfl rfl (by decide +kernel) ⟨Nat.le_of_ble_eq_true rfl, Nat.le_of_ble_eq_true rfl⟩) rfl hl.1 rfl (Nat.le_of_ble_eq_true rfl) dX11_better_64 ⟨Nat.le_of_ble_eq_true rfl, Nat.le_of_ble_eq_true rfl⟩ (fun ad' H locs hp hw => ?_)
  subst hp
  refine W.widen (k := 0) (n := 0) (by decide) (by decide) ?_
  refine lv_iload_n hx hb dX11_better_67 rfl (lv_at hl 1 rfl) ?_
  refine lv_i2l (v := v2.toInt64) hx hb dX11_better_68 rfl ?_
  cases h
  exact r_lret C hw rfl (by decide) (by decide) dX11_better_69
def fX11_better_35 (r35 : (Int32 × Int32 × Sg) → Option (Int64 × Sg)) (v1 : Int32) (v2 : Int32) (sg : Sg) : Option (Int64 × Sg) :=
  (if v1 ≤ v2 then fX11_better_56 v2 sg else bnd2 (fX7_improve sg) (fun y2 sg3 => (if y2 = 0 then fX11_better_56 v2 sg3 else lt (v2 + (1 : Int32)) (fun x6 => r35 (v1, x6, sg3)))))
set_option maxHeartbeats 4000000 in
set_option maxRecDepth 100000 in
theorem tX11_better_35 (C : Cx p s m args meth c cX11_better 3 RX11 wsX11_better (some .long) D vwCl (tysC T) A true nwL) {ro : Int64} {so : Sg} {r35 : (Int32 × Int32 × Sg) → Option (Int64 × Sg)} (hr35 : ∀ (v1 : Int32) (v2 : Int32) (sg : Sg), r35 (v1, v2, sg) = some (ro, so) → ∀ (H : Heap) (locs : List Loc) (ls : Array Slot), WS ZC D vwCl T ad sg lg A s.heap H locs → lv_has ls 3 [(0, .ref (ad 0)), (1, .int v1), (2, .int v2)] → W p l e rmX11_better s m args below meth c H locs 0 0 (MQ below (QL ZC D vwCl T (tysC T) A (fun z => ad = z) ro so lg) args s 0 0 A) (F0 m 35 ls [])) : ∀ (v1 : Int32) (v2 : Int32) (sg : Sg), ∀ (H : Heap) (locs : List Loc) (ls : Array Slot), WS ZC D vwCl T ad sg lg A s.heap H locs → lv_has ls 3 [(0, .ref (ad 0)), (1, .int v1), (2, .int v2)] → fX11_better_35 r35 v1 v2 sg = some (ro, so) → W p l e rmX11_better s m args below meth c H locs 0 0 (MQ below (QL ZC D vwCl T (tysC T) A (fun z => ad = z) ro so lg) args s 0 0 A) (F0 m 35 ls []) := by
  obtain ⟨⟨hx, hb, hml, hown, hts⟩, hr, hlk, hK, hA, hsp⟩ := id C
  intro v1 v2 sg H locs ls hw hl h
  unfold fX11_better_35 at h
  refine lv_iload_n hx hb dX11_better_35 rfl (lv_at hl 2 rfl) ?_
  refine lv_iload_n hx hb dX11_better_36 rfl (lv_at hl 1 rfl) ?_
  refine lv_icmp_ge (tgt := 56) hx hb dX11_better_37 (by decide) (fun c1 => ?_) (fun c1 => ?_)
  · replace h := ite_t h c1
    exact tX11_better_56 C v2 sg _ _ _ hw (lv_sub hl [0, 2] rfl) h
  · replace h := ite_f h c1
    refine lv_aload_n hx hb dX11_better_40 rfl (lv_at hl 0 rfl) ?_
    refine r_getR (ci := 11) (C := RX11) (U := TX11) (N := 9) hx hb hts kX11_better_iX11 hown hK hw 0 (by decide) rfl rfl 5 (by decide) 6 rfl (hts _ kX11_better_f51) (fun _ h9 => h9) dX11_better_41 ?_
    obtain ⟨y2, sg3, hq4, h2⟩ := bnd2_some h
    replace h := h2
    clear h2
    refine r_cVi (As := []) (rest := []) C hw 6 (by decide) (ci := 7) rfl rfl (mX7_improve l D T ad lg H.size sg hq4) (cwV 0 hts gX11_better_X7_improve rfl rfl rfl (by decide +kernel) ⟨Nat.le_of_ble_eq_true rfl, Nat.le_of_ble_eq_true rfl⟩) rfl hl.1 rfl (Nat.le_of_ble_eq_true rfl) dX11_better_44 ⟨Nat.le_of_ble_eq_true rfl, Nat.le_of_ble_eq_true rfl⟩ (fun ad' H locs hp hw => ?_)
    subst hp
    refine W.widen (k := 0) (n := 0) (by decide) (by decide) ?_
    refine lv_if_eq (tgt := 56) hx hb dX11_better_47 (by decide) (fun c5 => ?_) (fun c5 => ?_)
    · replace h := ite_t h c5
      exact tX11_better_56 C v2 sg3 _ _ _ hw (lv_sub hl [0, 2] rfl) h
    · replace h := ite_f h c5
      obtain ⟨x6, ex6⟩ : ∃ z : Int32, z = (v2 + (1 : Int32)) := ⟨_, rfl⟩
      replace h := lt_get h x6 ex6
      refine lv_iinc (v := x6) (lv' := [(2, .int x6), (0, .ref (ad 0)), (1, .int v1)]) hx hb dX11_better_50 hl (k := 2) rfl (by rw [ex6]; rfl) (by decide) rfl (fun ls hl => ?_)
      refine lv_goto (tgt := 35) hx hb dX11_better_53 (by decide) ?_
      exact hr35 v1 x6 sg3 h _ _ _ hw (lv_sub hl [1, 2, 0] rfl)
def LX11_better_35  : (Int32 × Int32 × Sg) → Option (Int64 × Sg) := loop (fun rec z => fX11_better_35 rec z.1 z.2.1 z.2.2)
theorem TX11_better_35 (C : Cx p s m args meth c cX11_better 3 RX11 wsX11_better (some .long) D vwCl (tysC T) A true nwL) {ro : Int64} {so : Sg}   : ∀ (v1 : Int32) (v2 : Int32) (sg : Sg), LX11_better_35 (v1, v2, sg) = some (ro, so) → ∀ (H : Heap) (locs : List Loc) (ls : Array Slot), WS ZC D vwCl T ad sg lg A s.heap H locs → lv_has ls 3 [(0, .ref (ad 0)), (1, .int v1), (2, .int v2)] → W p l e rmX11_better s m args below meth c H locs 0 0 (MQ below (QL ZC D vwCl T (tysC T) A (fun z => ad = z) ro so lg) args s 0 0 A) (F0 m 35 ls []) := by
  have key : ∀ z : (Int32 × Int32 × Sg), LX11_better_35  z = some (ro, so) → ∀ (H : Heap) (locs : List Loc) (ls : Array Slot), WS ZC D vwCl T ad z.2.2 lg A s.heap H locs → lv_has ls 3 [(0, .ref (ad 0)), (1, .int z.1), (2, .int z.2.1)] → W p l e rmX11_better s m args below meth c H locs 0 0 (MQ below (QL ZC D vwCl T (tysC T) A (fun z => ad = z) ro so lg) args s 0 0 A) (F0 m 35 ls []) := by
    intro z h
    unfold LX11_better_35 at h
    exact loop_ind (fun rec z => fX11_better_35 rec z.1 z.2.1 z.2.2) (y := (ro, so)) (P := fun z => ∀ (H : Heap) (locs : List Loc) (ls : Array Slot), WS ZC D vwCl T ad z.2.2 lg A s.heap H locs → lv_has ls 3 [(0, .ref (ad 0)), (1, .int z.1), (2, .int z.2.1)] → W p l e rmX11_better s m args below meth c H locs 0 0 (MQ below (QL ZC D vwCl T (tysC T) A (fun z => ad = z) ro so lg) args s 0 0 A) (F0 m 35 ls [])) (fun rec hrec z h H locs ls hw hl => tX11_better_35 C  (fun v1 v2 sg => hrec (v1, v2, sg)) z.1 z.2.1 z.2.2 H locs ls hw hl h) z h
  exact fun v1 v2 sg => key (v1, v2, sg)
def fX11_better  (v1 : Int32) (sg : Sg) : Option (Int64 × Sg) :=
  (if v1 < (1 : Int32) then some ((-2000000001 : Int64), sg) else (if v1 ≤ (40 : Int32) then bnd2 (fX7_readFrom sg) (fun y3 sg4 => (if y3 = 0 then some ((-2000000002 : Int64), sg4) else LX11_better_35 (v1, (0 : Int32), sg4))) else some ((-2000000001 : Int64), sg)))
set_option maxHeartbeats 4000000 in
set_option maxRecDepth 100000 in
theorem tX11_better_0 (C : Cx p s m args meth c cX11_better 3 RX11 wsX11_better (some .long) D vwCl (tysC T) A true nwL) {ro : Int64} {so : Sg}   : ∀ (v1 : Int32) (sg : Sg), ∀ (H : Heap) (locs : List Loc) (ls : Array Slot), WS ZC D vwCl T ad sg lg A s.heap H locs → lv_has ls 3 [(0, .ref (ad 0)), (1, .int v1)] → fX11_better v1 sg = some (ro, so) → W p l e rmX11_better s m args below meth c H locs 0 0 (MQ below (QL ZC D vwCl T (tysC T) A (fun z => ad = z) ro so lg) args s 0 0 A) (F0 m 0 ls []) := by
  obtain ⟨⟨hx, hb, hml, hown, hts⟩, hr, hlk, hK, hA, hsp⟩ := id C
  intro v1 sg H locs ls hw hl h
  unfold fX11_better at h
  refine lv_iload_n hx hb dX11_better_0 rfl (lv_at hl 1 rfl) ?_
  refine lv_iconst (v := (1 : Int32)) hx hb dX11_better_1 (by decide) ?_
  refine lv_icmp_lt (tgt := 11) hx hb dX11_better_2 (by decide) (fun c1 => ?_) (fun c1 => ?_)
  · replace h := ite_t h c1
    refine lv_ldc2 hx hb hown (hts _ kX11_better_c88) dX11_better_11 ?_
    cases h
    exact r_lret C hw rfl (by decide) (by decide) dX11_better_14
  · replace h := ite_f h c1
    refine lv_iload_n hx hb dX11_better_5 rfl (lv_at hl 1 rfl) ?_
    refine lv_bipush (v := (40 : Int32)) hx hb dX11_better_6 (by decide) ?_
    refine lv_icmp_le (tgt := 15) hx hb dX11_better_8 (by decide) (fun c2 => ?_) (fun c2 => ?_)
    · replace h := ite_t h c2
      refine lv_aload_n hx hb dX11_better_15 rfl (lv_at hl 0 rfl) ?_
      refine r_getR (ci := 11) (C := RX11) (U := TX11) (N := 9) hx hb hts kX11_better_iX11 hown hK hw 0 (by decide) rfl rfl 5 (by decide) 6 rfl (hts _ kX11_better_f51) (fun _ h9 => h9) dX11_better_16 ?_
      refine lv_aload_n hx hb dX11_better_19 rfl (lv_at hl 0 rfl) ?_
      refine r_getR (ci := 11) (C := RX11) (U := TX11) (N := 9) hx hb hts kX11_better_iX11 hown hK hw 0 (by decide) rfl rfl 4 (by decide) 5 rfl (hts _ kX11_better_f44) (fun _ h9 => h9) dX11_better_20 ?_
      obtain ⟨y3, sg4, hq5, h2⟩ := bnd2_some h
      replace h := h2
      clear h2
      refine r_cVi (As := [.ref (ad 5)]) (rest := []) C hw 6 (by decide) (ci := 7) rfl rfl (mX7_readFrom l D T ad lg H.size sg hq5) (cwV 1 hts gX11_better_X7_readFrom rfl rfl rfl (by decide +kernel) ⟨Nat.le_of_ble_eq_true rfl, Nat.le_of_ble_eq_true rfl⟩) rfl hl.1 rfl (Nat.le_of_ble_eq_true rfl) dX11_better_23 ⟨Nat.le_of_ble_eq_true rfl, Nat.le_of_ble_eq_true rfl⟩ (fun ad' H locs hp hw => ?_)
      subst hp
      refine W.widen (k := 0) (n := 0) (by decide) (by decide) ?_
      refine lv_if_ne (tgt := 33) hx hb dX11_better_26 (by decide) (fun c6 => ?_) (fun c6 => ?_)
      · replace h := ite_f h c6
        refine lv_iconst (v := (0 : Int32)) hx hb dX11_better_33 (by decide) ?_
        refine lv_istore_n (lv' := [(2, .int (0 : Int32)), (0, .ref (ad 0)), (1, .int v1)]) hx hb dX11_better_34 rfl hl (by decide) rfl (fun ls hl => ?_)
        exact TX11_better_35 C v1 (0 : Int32) sg4 h _ _ _ hw (lv_sub hl [1, 2, 0] rfl)
      · replace h := ite_t h c6
        refine lv_ldc2 hx hb hown (hts _ kX11_better_c113) dX11_better_29 ?_
        cases h
        exact r_lret C hw rfl (by decide) (by decide) dX11_better_32
    · replace h := ite_f h c2
      refine lv_ldc2 hx hb hown (hts _ kX11_better_c88) dX11_better_11 ?_
      cases h
      exact r_lret C hw rfl (by decide) (by decide) dX11_better_14
theorem mX11_better (l : Launch) (D : va_G) (T : Nat → ClassId) (ad : Nat → Nat) (lg : Lg) (sz : Nat)   (v1 : Int32) (sg : Sg) {ro : Int64} {so : Sg} (h : fX11_better v1 sg = some (ro, so)) : Met l yX11_better wsX11_better rmX11_better (PreZ ZC D vwCl T (tysC T) ad sg lg true nwL [.ref (ad 0), .int v1] sz) (QL ZC D vwCl T (tysC T) (va_A (zwd ZC T ad sg lg) sz) (fun z => ad = z) ro so lg) 0 0 (va_A (zwd ZC T ad sg lg) sz) :=
  metZ [.ref (ad 0), .int v1] sz (by decide) rfl (Nat.le_of_ble_eq_true rfl) (fun p e s m below meth c ls C hw hl => tX11_better_0 C v1 sg _ _ _ hw hl h)
-- PeckYard$Hand.reverse()V
def rmX5_reverse : Room := { frames := 0, cells := 0, slots := 0, locals := 0 }
theorem kX5_reverse_f15 : Cond.fieldLink RX5 15 "PeckYard$Hand" "size" "I" ∈ wsX5_reverse := by decide +kernel
theorem kX5_reverse_iX5 : ∀ w ∈ u_ws RX5 TX5 2, w ∈ wsX5_reverse := by decide +kernel
theorem kX5_reverse_f9 : Cond.fieldLink RX5 9 "PeckYard$Hand" "hens" "[I" ∈ wsX5_reverse := by decide +kernel
def fX5_reverse_2 (r2 : (Int32 × Sg) → Option (Sg)) (v1 : Int32) (sg : Sg) : Option (Sg) :=
  (if ((sg 5 0) / (2 : Int32)) ≤ v1 then some sg else lt (((sg 5 0) - (1 : Int32)) - v1) (fun x2 => gin v1 12 (lt (sg 31 v1.toNatClampNeg) (fun x4 => gin x2 12 (lt (sg 31 x2.toNatClampNeg) (fun x6 => gin v1 12 (lt (up2 sg 31 v1.toNatClampNeg x6) (fun sg8 => gin x2 12 (lt (up2 sg8 31 x2.toNatClampNeg x4) (fun sg10 => lt (v1 + (1 : Int32)) (fun x11 => r2 (x11, sg10))))))))))))
set_option maxHeartbeats 4000000 in
set_option maxRecDepth 100000 in
theorem tX5_reverse_2 (C : Cx p s m args meth c cX5_reverse 4 RX5 wsX5_reverse none D vwCl (tysC T) A true nwL) {so : Sg} {r2 : (Int32 × Sg) → Option (Sg)} (hr2 : ∀ (v1 : Int32) (sg : Sg), r2 (v1, sg) = some so → ∀ (H : Heap) (locs : List Loc) (ls : Array Slot), WS ZC D vwCl T ad sg lg A s.heap H locs → lv_has ls 4 [(0, .ref (ad 5)), (1, .int v1)] → W p l e rmX5_reverse s m args below meth c H locs 0 0 (MQ below (QV ZC D vwCl T (tysC T) A (fun z => ad = z) so lg) args s 0 0 A) (F0 m 2 ls [])) : ∀ (v1 : Int32) (sg : Sg), ∀ (H : Heap) (locs : List Loc) (ls : Array Slot), WS ZC D vwCl T ad sg lg A s.heap H locs → lv_has ls 4 [(0, .ref (ad 5)), (1, .int v1)] → fX5_reverse_2 r2 v1 sg = some so → W p l e rmX5_reverse s m args below meth c H locs 0 0 (MQ below (QV ZC D vwCl T (tysC T) A (fun z => ad = z) so lg) args s 0 0 A) (F0 m 2 ls []) := by
  obtain ⟨⟨hx, hb, hml, hown, hts⟩, hr, hlk, hK, hA, hsp⟩ := id C
  intro v1 sg H locs ls hw hl h
  unfold fX5_reverse_2 at h
  refine lv_iload_n hx hb dX5_reverse_2 rfl (lv_at hl 1 rfl) ?_
  refine lv_aload_n hx hb dX5_reverse_3 rfl (lv_at hl 0 rfl) ?_
  refine r_getI (ci := 5) (C := RX5) (U := TX5) (N := 2) hx hb hts kX5_reverse_iX5 hown hK hw 5 (by decide) rfl rfl 0 (by decide) rfl (hts _ kX5_reverse_f15) (fun _ h9 => h9) dX5_reverse_4 ?_
  refine lv_iconst (v := (2 : Int32)) hx hb dX5_reverse_7 (by decide) ?_
  refine lv_idiv hx hb dX5_reverse_8 (by decide) ?_
  refine lv_icmp_ge (tgt := 53) hx hb dX5_reverse_9 (by decide) (fun c1 => ?_) (fun c1 => ?_)
  · replace h := ite_t h c1
    cases h
    exact r_vret C hw rfl (by decide) (by decide) dX5_reverse_53
  · replace h := ite_f h c1
    refine lv_aload_n hx hb dX5_reverse_12 rfl (lv_at hl 0 rfl) ?_
    refine r_getI (ci := 5) (C := RX5) (U := TX5) (N := 2) hx hb hts kX5_reverse_iX5 hown hK hw 5 (by decide) rfl rfl 0 (by decide) rfl (hts _ kX5_reverse_f15) (fun _ h9 => h9) dX5_reverse_13 ?_
    refine lv_iconst (v := (1 : Int32)) hx hb dX5_reverse_16 (by decide) ?_
    refine lv_isub hx hb dX5_reverse_17 ?_
    refine lv_iload_n hx hb dX5_reverse_18 rfl (lv_at hl 1 rfl) ?_
    refine lv_isub hx hb dX5_reverse_19 ?_
    refine lv_topi (fun x2 ex2 => ?_)
    replace h := lt_get h x2 ex2
    refine lv_istore_n (lv' := [(2, .int x2), (0, .ref (ad 5)), (1, .int v1)]) hx hb dX5_reverse_20 rfl hl (by decide) rfl (fun ls hl => ?_)
    refine lv_aload_n hx hb dX5_reverse_21 rfl (lv_at hl 1 rfl) ?_
    refine r_getR (ci := 5) (C := RX5) (U := TX5) (N := 2) hx hb hts kX5_reverse_iX5 hown hK hw 5 (by decide) rfl rfl 1 (by decide) 31 rfl (hts _ kX5_reverse_f9) (fun _ h9 => h9) dX5_reverse_22 ?_
    refine lv_iload_n hx hb dX5_reverse_25 rfl (lv_at hl 2 rfl) ?_
    have hi3 := (gin_some h).1
    replace h := (gin_some h).2
    refine r_iald hx hb hK hw 31 0 12 (by decide) rfl rfl rfl hi3 dX5_reverse_26 ?_
    refine lv_topi (fun x4 ex4 => ?_)
    replace h := lt_get h x4 ex4
    refine lv_istore_n (lv' := [(3, .int x4), (2, .int x2), (0, .ref (ad 5)), (1, .int v1)]) hx hb dX5_reverse_27 rfl hl (by decide) rfl (fun ls hl => ?_)
    refine lv_aload_n hx hb dX5_reverse_28 rfl (lv_at hl 2 rfl) ?_
    refine r_getR (ci := 5) (C := RX5) (U := TX5) (N := 2) hx hb hts kX5_reverse_iX5 hown hK hw 5 (by decide) rfl rfl 1 (by decide) 31 rfl (hts _ kX5_reverse_f9) (fun _ h9 => h9) dX5_reverse_29 ?_
    refine lv_iload_n hx hb dX5_reverse_32 rfl (lv_at hl 3 rfl) ?_
    refine lv_aload_n hx hb dX5_reverse_33 rfl (lv_at hl 2 rfl) ?_
    refine r_getR (ci := 5) (C := RX5) (U := TX5) (N := 2) hx hb hts kX5_reverse_iX5 hown hK hw 5 (by decide) rfl rfl 1 (by decide) 31 rfl (hts _ kX5_reverse_f9) (fun _ h9 => h9) dX5_reverse_34 ?_
    refine lv_iload_n hx hb dX5_reverse_37 rfl (lv_at hl 1 rfl) ?_
    have hi5 := (gin_some h).1
    replace h := (gin_some h).2
    refine r_iald hx hb hK hw 31 0 12 (by decide) rfl rfl rfl hi5 dX5_reverse_38 ?_
    refine lv_topi (fun x6 ex6 => ?_)
    replace h := lt_get h x6 ex6
    have hi7 := (gin_some h).1
    replace h := (gin_some h).2
    refine r_iast ZC_ok hx hb hK hw 31 0 12 (by decide) rfl rfl rfl hi7 dX5_reverse_39 (fun H locs sg8 esg8 hw => ?_)
    replace h := lt_get h sg8 esg8
    refine lv_aload_n hx hb dX5_reverse_40 rfl (lv_at hl 2 rfl) ?_
    refine r_getR (ci := 5) (C := RX5) (U := TX5) (N := 2) hx hb hts kX5_reverse_iX5 hown hK hw 5 (by decide) rfl rfl 1 (by decide) 31 rfl (hts _ kX5_reverse_f9) (fun _ h9 => h9) dX5_reverse_41 ?_
    refine lv_iload_n hx hb dX5_reverse_44 rfl (lv_at hl 1 rfl) ?_
    refine lv_iload_n hx hb dX5_reverse_45 rfl (lv_at hl 0 rfl) ?_
    have hi9 := (gin_some h).1
    replace h := (gin_some h).2
    refine r_iast ZC_ok hx hb hK hw 31 0 12 (by decide) rfl rfl rfl hi9 dX5_reverse_46 (fun H locs sg10 esg10 hw => ?_)
    replace h := lt_get h sg10 esg10
    obtain ⟨x11, ex11⟩ : ∃ z : Int32, z = (v1 + (1 : Int32)) := ⟨_, rfl⟩
    replace h := lt_get h x11 ex11
    refine lv_iinc (v := x11) (lv' := [(1, .int x11), (3, .int x4), (2, .int x2), (0, .ref (ad 5))]) hx hb dX5_reverse_47 hl (k := 3) rfl (by rw [ex11]; rfl) (by decide) rfl (fun ls hl => ?_)
    refine lv_goto (tgt := 2) hx hb dX5_reverse_50 (by decide) ?_
    exact hr2 x11 sg10 h _ _ _ hw (lv_sub hl [3, 0] rfl)
def LX5_reverse_2  : (Int32 × Sg) → Option (Sg) := loop (fun rec z => fX5_reverse_2 rec z.1 z.2)
theorem TX5_reverse_2 (C : Cx p s m args meth c cX5_reverse 4 RX5 wsX5_reverse none D vwCl (tysC T) A true nwL) {so : Sg}   : ∀ (v1 : Int32) (sg : Sg), LX5_reverse_2 (v1, sg) = some so → ∀ (H : Heap) (locs : List Loc) (ls : Array Slot), WS ZC D vwCl T ad sg lg A s.heap H locs → lv_has ls 4 [(0, .ref (ad 5)), (1, .int v1)] → W p l e rmX5_reverse s m args below meth c H locs 0 0 (MQ below (QV ZC D vwCl T (tysC T) A (fun z => ad = z) so lg) args s 0 0 A) (F0 m 2 ls []) := by
  have key : ∀ z : (Int32 × Sg), LX5_reverse_2  z = some so → ∀ (H : Heap) (locs : List Loc) (ls : Array Slot), WS ZC D vwCl T ad z.2 lg A s.heap H locs → lv_has ls 4 [(0, .ref (ad 5)), (1, .int z.1)] → W p l e rmX5_reverse s m args below meth c H locs 0 0 (MQ below (QV ZC D vwCl T (tysC T) A (fun z => ad = z) so lg) args s 0 0 A) (F0 m 2 ls []) := by
    intro z h
    unfold LX5_reverse_2 at h
    exact loop_ind (fun rec z => fX5_reverse_2 rec z.1 z.2) (y := so) (P := fun z => ∀ (H : Heap) (locs : List Loc) (ls : Array Slot), WS ZC D vwCl T ad z.2 lg A s.heap H locs → lv_has ls 4 [(0, .ref (ad 5)), (1, .int z.1)] → W p l e rmX5_reverse s m args below meth c H locs 0 0 (MQ below (QV ZC D vwCl T (tysC T) A (fun z => ad = z) so lg) args s 0 0 A) (F0 m 2 ls [])) (fun rec hrec z h H locs ls hw hl => tX5_reverse_2 C  (fun v1 sg => hrec (v1, sg)) z.1 z.2 H locs ls hw hl h) z h
  exact fun v1 sg => key (v1, sg)
def fX5_reverse  (sg : Sg) : Option (Sg) :=
  LX5_reverse_2 ((0 : Int32), sg)
set_option maxHeartbeats 4000000 in
set_option maxRecDepth 100000 in
theorem tX5_reverse_0 (C : Cx p s m args meth c cX5_reverse 4 RX5 wsX5_reverse none D vwCl (tysC T) A true nwL) {so : Sg}   : ∀ (sg : Sg), ∀ (H : Heap) (locs : List Loc) (ls : Array Slot), WS ZC D vwCl T ad sg lg A s.heap H locs → lv_has ls 4 [(0, .ref (ad 5))] → fX5_reverse sg = some so → W p l e rmX5_reverse s m args below meth c H locs 0 0 (MQ below (QV ZC D vwCl T (tysC T) A (fun z => ad = z) so lg) args s 0 0 A) (F0 m 0 ls []) := by
  obtain ⟨⟨hx, hb, hml, hown, hts⟩, hr, hlk, hK, hA, hsp⟩ := id C
  intro sg H locs ls hw hl h
  unfold fX5_reverse at h
  refine lv_iconst (v := (0 : Int32)) hx hb dX5_reverse_0 (by decide) ?_
  refine lv_istore_n (lv' := [(1, .int (0 : Int32)), (0, .ref (ad 5))]) hx hb dX5_reverse_1 rfl hl (by decide) rfl (fun ls hl => ?_)
  exact TX5_reverse_2 C (0 : Int32) sg h _ _ _ hw (lv_sub hl [1, 0] rfl)
theorem mX5_reverse (l : Launch) (D : va_G) (T : Nat → ClassId) (ad : Nat → Nat) (lg : Lg) (sz : Nat)   (sg : Sg) {so : Sg} (h : fX5_reverse sg = some so) : Met l yX5_reverse wsX5_reverse rmX5_reverse (PreZ ZC D vwCl T (tysC T) ad sg lg true nwL [.ref (ad 5)] sz) (QV ZC D vwCl T (tysC T) (va_A (zwd ZC T ad sg lg) sz) (fun z => ad = z) so lg) 0 0 (va_A (zwd ZC T ad sg lg) sz) :=
  metZ [.ref (ad 5)] sz (by decide) rfl (Nat.le_of_ble_eq_true rfl) (fun p e s m below meth c ls C hw hl => tX5_reverse_0 C sg _ _ _ hw hl h)
-- PeckYard.turn()J
def rmX11_turn : Room := { frames := 1, cells := 0, slots := 0, locals := 23 }
theorem kX11_turn_f44 : Cond.fieldLink RX11 44 "PeckYard" "hand" "LPeckYard$Hand;" ∈ wsX11_turn := by decide +kernel
theorem kX11_turn_iX11 : ∀ w ∈ u_ws RX11 TX11 9, w ∈ wsX11_turn := by decide +kernel
def fX11_turn  (sg : Sg) : Option (Int64 × Sg) :=
  bnd1 (fX5_reverse sg) (fun sg1 => some ((0 : Int64), sg1))
set_option maxHeartbeats 4000000 in
set_option maxRecDepth 100000 in
theorem tX11_turn_0 (C : Cx p s m args meth c cX11_turn 1 RX11 wsX11_turn (some .long) D vwCl (tysC T) A true nwL) {ro : Int64} {so : Sg}   : ∀ (sg : Sg), ∀ (H : Heap) (locs : List Loc) (ls : Array Slot), WS ZC D vwCl T ad sg lg A s.heap H locs → lv_has ls 1 [(0, .ref (ad 0))] → fX11_turn sg = some (ro, so) → W p l e rmX11_turn s m args below meth c H locs 0 0 (MQ below (QL ZC D vwCl T (tysC T) A (fun z => ad = z) ro so lg) args s 0 0 A) (F0 m 0 ls []) := by
  obtain ⟨⟨hx, hb, hml, hown, hts⟩, hr, hlk, hK, hA, hsp⟩ := id C
  intro sg H locs ls hw hl h
  unfold fX11_turn at h
  refine lv_aload_n hx hb dX11_turn_0 rfl (lv_at hl 0 rfl) ?_
  refine r_getR (ci := 11) (C := RX11) (U := TX11) (N := 9) hx hb hts kX11_turn_iX11 hown hK hw 0 (by decide) rfl rfl 4 (by decide) 5 rfl (hts _ kX11_turn_f44) (fun _ h9 => h9) dX11_turn_1 ?_
  obtain ⟨sg1, hq2, h2⟩ := bnd1_some h
  replace h := h2
  clear h2
  refine r_cVv (As := []) (rest := []) C hw 5 (by decide) (ci := 5) rfl rfl (mX5_reverse l D T ad lg H.size sg hq2) (cwV 0 hts gX11_turn_X5_reverse rfl rfl rfl (by decide +kernel) ⟨Nat.le_of_ble_eq_true rfl, Nat.le_of_ble_eq_true rfl⟩) rfl hl.1 rfl (Nat.le_of_ble_eq_true rfl) dX11_turn_4 ⟨Nat.le_of_ble_eq_true rfl, Nat.le_of_ble_eq_true rfl⟩ (fun ad' H locs hp hw => ?_)
  subst hp
  refine W.widen (k := 0) (n := 0) (by decide) (by decide) ?_
  refine lv_lconst (v := (0 : Int64)) hx hb dX11_turn_7 (by decide) ?_
  cases h
  exact r_lret C hw rfl (by decide) (by decide) dX11_turn_8
theorem mX11_turn (l : Launch) (D : va_G) (T : Nat → ClassId) (ad : Nat → Nat) (lg : Lg) (sz : Nat)   (sg : Sg) {ro : Int64} {so : Sg} (h : fX11_turn sg = some (ro, so)) : Met l yX11_turn wsX11_turn rmX11_turn (PreZ ZC D vwCl T (tysC T) ad sg lg true nwL [.ref (ad 0)] sz) (QL ZC D vwCl T (tysC T) (va_A (zwd ZC T ad sg lg) sz) (fun z => ad = z) ro so lg) 0 0 (va_A (zwd ZC T ad sg lg) sz) :=
  metZ [.ref (ad 0)] sz (by decide) rfl (Nat.le_of_ble_eq_true rfl) (fun p e s m below meth c ls C hw hl => tX11_turn_0 C sg _ _ _ hw hl h)
-- PeckYard$Groups.followPecks()V
def rmX3_followPecks : Room := { frames := 1, cells := 0, slots := 0, locals := 22 }
theorem kX3_followPecks_f22 : Cond.fieldLink RX3 22 "PeckYard$Groups" "muster" "LPeckYard$Muster;" ∈ wsX3_followPecks := by decide +kernel
theorem kX3_followPecks_iX3 : ∀ w ∈ u_ws RX3 TX3 5, w ∈ wsX3_followPecks := by decide +kernel
theorem kX3_followPecks_f44 : Cond.fieldLink RX3 44 "PeckYard$Muster" "size" "I" ∈ wsX3_followPecks := by decide +kernel
theorem kX3_followPecks_iX8 : ∀ w ∈ u_ws RX8 TX8 10, w ∈ wsX3_followPecks := by decide +kernel
theorem kX3_followPecks_f19 : Cond.fieldLink RX3 19 "PeckYard$Groups" "reached" "[I" ∈ wsX3_followPecks := by decide +kernel
theorem kX3_followPecks_ini_X11 : Cond.initialized "PeckYard" ∈ wsX3_followPecks := by decide +kernel
theorem kX3_followPecks_s49 : Cond.static yX11_isIn ∈ wsX3_followPecks := by decide +kernel
def fX3_followPecks_125 (r73 : (Int32 × Sg) → Option (Sg)) (r86 : (Int32 × Int32 × Sg) → Option (Sg)) (v1 : Int32) (v2 : Int32) (sg : Sg) : Option (Sg) :=
  lt (v2 + (1 : Int32)) (fun x1 => r86 (v1, x1, sg))
set_option maxHeartbeats 4000000 in
set_option maxRecDepth 100000 in
theorem tX3_followPecks_125 (C : Cx p s m args meth c cX3_followPecks 3 RX3 wsX3_followPecks none D vwCl (tysC T) A true nwL) {so : Sg} {r73 : (Int32 × Sg) → Option (Sg)} {r86 : (Int32 × Int32 × Sg) → Option (Sg)} (hr73 : ∀ (v1 : Int32) (sg : Sg), r73 (v1, sg) = some so → ∀ (H : Heap) (locs : List Loc) (ls : Array Slot), WS ZC D vwCl T ad sg lg A s.heap H locs → lv_has ls 3 [(0, .ref (ad 7)), (1, .int v1)] → W p l e rmX3_followPecks s m args below meth c H locs 0 0 (MQ below (QV ZC D vwCl T (tysC T) A (fun z => ad = z) so lg) args s 0 0 A) (F0 m 73 ls [])) (hr86 : ∀ (v1 : Int32) (v2 : Int32) (sg : Sg), r86 (v1, v2, sg) = some so → ∀ (H : Heap) (locs : List Loc) (ls : Array Slot), WS ZC D vwCl T ad sg lg A s.heap H locs → lv_has ls 3 [(0, .ref (ad 7)), (1, .int v1), (2, .int v2)] → W p l e rmX3_followPecks s m args below meth c H locs 0 0 (MQ below (QV ZC D vwCl T (tysC T) A (fun z => ad = z) so lg) args s 0 0 A) (F0 m 86 ls [])) : ∀ (v1 : Int32) (v2 : Int32) (sg : Sg), ∀ (H : Heap) (locs : List Loc) (ls : Array Slot), WS ZC D vwCl T ad sg lg A s.heap H locs → lv_has ls 3 [(0, .ref (ad 7)), (1, .int v1), (2, .int v2)] → fX3_followPecks_125 r73 r86 v1 v2 sg = some so → W p l e rmX3_followPecks s m args below meth c H locs 0 0 (MQ below (QV ZC D vwCl T (tysC T) A (fun z => ad = z) so lg) args s 0 0 A) (F0 m 125 ls []) := by
  obtain ⟨⟨hx, hb, hml, hown, hts⟩, hr, hlk, hK, hA, hsp⟩ := id C
  intro v1 v2 sg H locs ls hw hl h
  unfold fX3_followPecks_125 at h
  obtain ⟨x1, ex1⟩ : ∃ z : Int32, z = (v2 + (1 : Int32)) := ⟨_, rfl⟩
  replace h := lt_get h x1 ex1
  refine lv_iinc (v := x1) (lv' := [(2, .int x1), (0, .ref (ad 7)), (1, .int v1)]) hx hb dX3_followPecks_125 hl (k := 2) rfl (by rw [ex1]; rfl) (by decide) rfl (fun ls hl => ?_)
  refine lv_goto (tgt := 86) hx hb dX3_followPecks_128 (by decide) ?_
  exact hr86 v1 x1 sg h _ _ _ hw (lv_sub hl [1, 2, 0] rfl)
def fX3_followPecks_86 (r73 : (Int32 × Sg) → Option (Sg)) (r86 : (Int32 × Int32 × Sg) → Option (Sg)) (v1 : Int32) (v2 : Int32) (sg : Sg) : Option (Sg) :=
  (if (sg 3 2) ≤ v2 then lt (v1 + (1 : Int32)) (fun x2 => r73 (x2, sg)) else gin v2 12 (bnd2 (fX11_isIn (sg 36 v2.toNatClampNeg) v1 sg) (fun y4 sg5 => (if y4 = 0 then fX3_followPecks_125 r73 r86 v1 v2 sg5 else gin v2 12 (gin v1 12 (lt ((sg5 36 v2.toNatClampNeg) ||| (sg5 36 v1.toNatClampNeg)) (fun x11 => gin v2 12 (lt (up2 sg5 36 v2.toNatClampNeg x11) (fun sg13 => fX3_followPecks_125 r73 r86 v1 v2 sg13)))))))))
set_option maxHeartbeats 4000000 in
set_option maxRecDepth 100000 in
theorem tX3_followPecks_86 (C : Cx p s m args meth c cX3_followPecks 3 RX3 wsX3_followPecks none D vwCl (tysC T) A true nwL) {so : Sg} {r73 : (Int32 × Sg) → Option (Sg)} {r86 : (Int32 × Int32 × Sg) → Option (Sg)} (hr73 : ∀ (v1 : Int32) (sg : Sg), r73 (v1, sg) = some so → ∀ (H : Heap) (locs : List Loc) (ls : Array Slot), WS ZC D vwCl T ad sg lg A s.heap H locs → lv_has ls 3 [(0, .ref (ad 7)), (1, .int v1)] → W p l e rmX3_followPecks s m args below meth c H locs 0 0 (MQ below (QV ZC D vwCl T (tysC T) A (fun z => ad = z) so lg) args s 0 0 A) (F0 m 73 ls [])) (hr86 : ∀ (v1 : Int32) (v2 : Int32) (sg : Sg), r86 (v1, v2, sg) = some so → ∀ (H : Heap) (locs : List Loc) (ls : Array Slot), WS ZC D vwCl T ad sg lg A s.heap H locs → lv_has ls 3 [(0, .ref (ad 7)), (1, .int v1), (2, .int v2)] → W p l e rmX3_followPecks s m args below meth c H locs 0 0 (MQ below (QV ZC D vwCl T (tysC T) A (fun z => ad = z) so lg) args s 0 0 A) (F0 m 86 ls [])) : ∀ (v1 : Int32) (v2 : Int32) (sg : Sg), ∀ (H : Heap) (locs : List Loc) (ls : Array Slot), WS ZC D vwCl T ad sg lg A s.heap H locs → lv_has ls 3 [(0, .ref (ad 7)), (1, .int v1), (2, .int v2)] → fX3_followPecks_86 r73 r86 v1 v2 sg = some so → W p l e rmX3_followPecks s m args below meth c H locs 0 0 (MQ below (QV ZC D vwCl T (tysC T) A (fun z => ad = z) so lg) args s 0 0 A) (F0 m 86 ls []) := by
  obtain ⟨⟨hx, hb, hml, hown, hts⟩, hr, hlk, hK, hA, hsp⟩ := id C
  intro v1 v2 sg H locs ls hw hl h
  unfold fX3_followPecks_86 at h
  refine lv_iload_n hx hb dX3_followPecks_86 rfl (lv_at hl 2 rfl) ?_
  refine lv_aload_n hx hb dX3_followPecks_87 rfl (lv_at hl 0 rfl) ?_
  refine r_getR (ci := 3) (C := RX3) (U := TX3) (N := 5) hx hb hts kX3_followPecks_iX3 hown hK hw 7 (by decide) rfl rfl 0 (by decide) 3 rfl (hts _ kX3_followPecks_f22) (fun _ h9 => h9) dX3_followPecks_88 ?_
  refine r_getI (ci := 8) (C := RX8) (U := TX8) (N := 10) hx hb hts kX3_followPecks_iX8 hown hK hw 3 (by decide) rfl rfl 2 (by decide) rfl (hts _ kX3_followPecks_f44) (fun _ h9 => h9) dX3_followPecks_91 ?_
  refine lv_icmp_ge (tgt := 131) hx hb dX3_followPecks_94 (by decide) (fun c1 => ?_) (fun c1 => ?_)
  · replace h := ite_t h c1
    obtain ⟨x2, ex2⟩ : ∃ z : Int32, z = (v1 + (1 : Int32)) := ⟨_, rfl⟩
    replace h := lt_get h x2 ex2
    refine lv_iinc (v := x2) (lv' := [(1, .int x2), (0, .ref (ad 7)), (2, .int v2)]) hx hb dX3_followPecks_131 hl (k := 1) rfl (by rw [ex2]; rfl) (by decide) rfl (fun ls hl => ?_)
    refine lv_goto (tgt := 73) hx hb dX3_followPecks_134 (by decide) ?_
    exact hr73 x2 sg h _ _ _ hw (lv_sub hl [1, 0] rfl)
  · replace h := ite_f h c1
    refine lv_aload_n hx hb dX3_followPecks_97 rfl (lv_at hl 0 rfl) ?_
    refine r_getR (ci := 3) (C := RX3) (U := TX3) (N := 5) hx hb hts kX3_followPecks_iX3 hown hK hw 7 (by decide) rfl rfl 4 (by decide) 36 rfl (hts _ kX3_followPecks_f19) (fun _ h9 => h9) dX3_followPecks_98 ?_
    refine lv_iload_n hx hb dX3_followPecks_101 rfl (lv_at hl 2 rfl) ?_
    have hi3 := (gin_some h).1
    replace h := (gin_some h).2
    refine r_iald hx hb hK hw 36 0 12 (by decide) rfl rfl rfl hi3 dX3_followPecks_102 ?_
    refine lv_iload_n hx hb dX3_followPecks_103 rfl (lv_at hl 1 rfl) ?_
    obtain ⟨y4, sg5, hq6, h2⟩ := bnd2_some h
    replace h := h2
    clear h2
    obtain ⟨-, -, hmt7⟩ := hsp rfl
    refine r_cNi (As := [.int (sg 36 v2.toNatClampNeg), .int v1]) (rest := []) C hw (mX11_isIn l D T ad lg H.size (sg 36 v2.toNatClampNeg) v1 sg hq6) ⟨va_cnB (host := "PeckYard") 2 hts gX3_followPecks_X11_isIn_n49 rfl rfl rfl (hmt7 _ nw_X3_49) (hts _ kX3_followPecks_ini_X11) (by decide +kernel) ⟨Nat.le_of_ble_eq_true rfl, Nat.le_of_ble_eq_true rfl⟩, (hts _ kX3_followPecks_s49), trivial⟩ rfl hl.1 rfl (Nat.le_of_ble_eq_true rfl) dX3_followPecks_104 ⟨Nat.le_of_ble_eq_true rfl, Nat.le_of_ble_eq_true rfl⟩ (fun ad' H locs hp hw => ?_)
    subst hp
    refine W.widen (k := 0) (n := 0) (by decide) (by decide) ?_
    refine lv_if_eq (tgt := 125) hx hb dX3_followPecks_107 (by decide) (fun c8 => ?_) (fun c8 => ?_)
    · replace h := ite_t h c8
      exact tX3_followPecks_125 C hr73 hr86 v1 v2 sg5 _ _ _ hw (lv_sub hl [0, 1, 2] rfl) h
    · replace h := ite_f h c8
      refine lv_aload_n hx hb dX3_followPecks_110 rfl (lv_at hl 0 rfl) ?_
      refine r_getR (ci := 3) (C := RX3) (U := TX3) (N := 5) hx hb hts kX3_followPecks_iX3 hown hK hw 7 (by decide) rfl rfl 4 (by decide) 36 rfl (hts _ kX3_followPecks_f19) (fun _ h9 => h9) dX3_followPecks_111 ?_
      refine lv_iload_n hx hb dX3_followPecks_114 rfl (lv_at hl 2 rfl) ?_
      refine lv_dup2_11 hx hb dX3_followPecks_115 rfl rfl ?_
      have hi9 := (gin_some h).1
      replace h := (gin_some h).2
      refine r_iald hx hb hK hw 36 0 12 (by decide) rfl rfl rfl hi9 dX3_followPecks_116 ?_
      refine lv_aload_n hx hb dX3_followPecks_117 rfl (lv_at hl 0 rfl) ?_
      refine r_getR (ci := 3) (C := RX3) (U := TX3) (N := 5) hx hb hts kX3_followPecks_iX3 hown hK hw 7 (by decide) rfl rfl 4 (by decide) 36 rfl (hts _ kX3_followPecks_f19) (fun _ h9 => h9) dX3_followPecks_118 ?_
      refine lv_iload_n hx hb dX3_followPecks_121 rfl (lv_at hl 1 rfl) ?_
      have hi10 := (gin_some h).1
      replace h := (gin_some h).2
      refine r_iald hx hb hK hw 36 0 12 (by decide) rfl rfl rfl hi10 dX3_followPecks_122 ?_
      refine lv_ior hx hb dX3_followPecks_123 ?_
      refine lv_topi (fun x11 ex11 => ?_)
      replace h := lt_get h x11 ex11
      have hi12 := (gin_some h).1
      replace h := (gin_some h).2
      refine r_iast ZC_ok hx hb hK hw 36 0 12 (by decide) rfl rfl rfl hi12 dX3_followPecks_124 (fun H locs sg13 esg13 hw => ?_)
      replace h := lt_get h sg13 esg13
      exact tX3_followPecks_125 C hr73 hr86 v1 v2 sg13 _ _ _ hw (lv_sub hl [0, 1, 2] rfl) h
def LX3_followPecks_86 (r73 : (Int32 × Sg) → Option (Sg)) : (Int32 × Int32 × Sg) → Option (Sg) := loop (fun rec z => fX3_followPecks_86 r73 rec z.1 z.2.1 z.2.2)
theorem TX3_followPecks_86 (C : Cx p s m args meth c cX3_followPecks 3 RX3 wsX3_followPecks none D vwCl (tysC T) A true nwL) {so : Sg} {r73 : (Int32 × Sg) → Option (Sg)} (hr73 : ∀ (v1 : Int32) (sg : Sg), r73 (v1, sg) = some so → ∀ (H : Heap) (locs : List Loc) (ls : Array Slot), WS ZC D vwCl T ad sg lg A s.heap H locs → lv_has ls 3 [(0, .ref (ad 7)), (1, .int v1)] → W p l e rmX3_followPecks s m args below meth c H locs 0 0 (MQ below (QV ZC D vwCl T (tysC T) A (fun z => ad = z) so lg) args s 0 0 A) (F0 m 73 ls [])) : ∀ (v1 : Int32) (v2 : Int32) (sg : Sg), LX3_followPecks_86 r73 (v1, v2, sg) = some so → ∀ (H : Heap) (locs : List Loc) (ls : Array Slot), WS ZC D vwCl T ad sg lg A s.heap H locs → lv_has ls 3 [(0, .ref (ad 7)), (1, .int v1), (2, .int v2)] → W p l e rmX3_followPecks s m args below meth c H locs 0 0 (MQ below (QV ZC D vwCl T (tysC T) A (fun z => ad = z) so lg) args s 0 0 A) (F0 m 86 ls []) := by
  have key : ∀ z : (Int32 × Int32 × Sg), LX3_followPecks_86 r73 z = some so → ∀ (H : Heap) (locs : List Loc) (ls : Array Slot), WS ZC D vwCl T ad z.2.2 lg A s.heap H locs → lv_has ls 3 [(0, .ref (ad 7)), (1, .int z.1), (2, .int z.2.1)] → W p l e rmX3_followPecks s m args below meth c H locs 0 0 (MQ below (QV ZC D vwCl T (tysC T) A (fun z => ad = z) so lg) args s 0 0 A) (F0 m 86 ls []) := by
    intro z h
    unfold LX3_followPecks_86 at h
    exact loop_ind (fun rec z => fX3_followPecks_86 r73 rec z.1 z.2.1 z.2.2) (y := so) (P := fun z => ∀ (H : Heap) (locs : List Loc) (ls : Array Slot), WS ZC D vwCl T ad z.2.2 lg A s.heap H locs → lv_has ls 3 [(0, .ref (ad 7)), (1, .int z.1), (2, .int z.2.1)] → W p l e rmX3_followPecks s m args below meth c H locs 0 0 (MQ below (QV ZC D vwCl T (tysC T) A (fun z => ad = z) so lg) args s 0 0 A) (F0 m 86 ls [])) (fun rec hrec z h H locs ls hw hl => tX3_followPecks_86 C hr73 (fun v1 v2 sg => hrec (v1, v2, sg)) z.1 z.2.1 z.2.2 H locs ls hw hl h) z h
  exact fun v1 v2 sg => key (v1, v2, sg)
def fX3_followPecks_73 (r73 : (Int32 × Sg) → Option (Sg)) (v1 : Int32) (sg : Sg) : Option (Sg) :=
  (if (sg 3 2) ≤ v1 then some sg else LX3_followPecks_86 r73 (v1, (0 : Int32), sg))
set_option maxHeartbeats 4000000 in
set_option maxRecDepth 100000 in
theorem tX3_followPecks_73 (C : Cx p s m args meth c cX3_followPecks 3 RX3 wsX3_followPecks none D vwCl (tysC T) A true nwL) {so : Sg} {r73 : (Int32 × Sg) → Option (Sg)} (hr73 : ∀ (v1 : Int32) (sg : Sg), r73 (v1, sg) = some so → ∀ (H : Heap) (locs : List Loc) (ls : Array Slot), WS ZC D vwCl T ad sg lg A s.heap H locs → lv_has ls 3 [(0, .ref (ad 7)), (1, .int v1)] → W p l e rmX3_followPecks s m args below meth c H locs 0 0 (MQ below (QV ZC D vwCl T (tysC T) A (fun z => ad = z) so lg) args s 0 0 A) (F0 m 73 ls [])) : ∀ (v1 : Int32) (sg : Sg), ∀ (H : Heap) (locs : List Loc) (ls : Array Slot), WS ZC D vwCl T ad sg lg A s.heap H locs → lv_has ls 3 [(0, .ref (ad 7)), (1, .int v1)] → fX3_followPecks_73 r73 v1 sg = some so → W p l e rmX3_followPecks s m args below meth c H locs 0 0 (MQ below (QV ZC D vwCl T (tysC T) A (fun z => ad = z) so lg) args s 0 0 A) (F0 m 73 ls []) := by
  obtain ⟨⟨hx, hb, hml, hown, hts⟩, hr, hlk, hK, hA, hsp⟩ := id C
  intro v1 sg H locs ls hw hl h
  unfold fX3_followPecks_73 at h
  refine lv_iload_n hx hb dX3_followPecks_73 rfl (lv_at hl 1 rfl) ?_
  refine lv_aload_n hx hb dX3_followPecks_74 rfl (lv_at hl 0 rfl) ?_
  refine r_getR (ci := 3) (C := RX3) (U := TX3) (N := 5) hx hb hts kX3_followPecks_iX3 hown hK hw 7 (by decide) rfl rfl 0 (by decide) 3 rfl (hts _ kX3_followPecks_f22) (fun _ h9 => h9) dX3_followPecks_75 ?_
  refine r_getI (ci := 8) (C := RX8) (U := TX8) (N := 10) hx hb hts kX3_followPecks_iX8 hown hK hw 3 (by decide) rfl rfl 2 (by decide) rfl (hts _ kX3_followPecks_f44) (fun _ h9 => h9) dX3_followPecks_78 ?_
  refine lv_icmp_ge (tgt := 137) hx hb dX3_followPecks_81 (by decide) (fun c1 => ?_) (fun c1 => ?_)
  · replace h := ite_t h c1
    cases h
    exact r_vret C hw rfl (by decide) (by decide) dX3_followPecks_137
  · replace h := ite_f h c1
    refine lv_iconst (v := (0 : Int32)) hx hb dX3_followPecks_84 (by decide) ?_
    refine lv_istore_n (lv' := [(2, .int (0 : Int32)), (0, .ref (ad 7)), (1, .int v1)]) hx hb dX3_followPecks_85 rfl hl (by decide) rfl (fun ls hl => ?_)
    exact TX3_followPecks_86 C hr73 v1 (0 : Int32) sg h _ _ _ hw (lv_sub hl [1, 2, 0] rfl)
def LX3_followPecks_73  : (Int32 × Sg) → Option (Sg) := loop (fun rec z => fX3_followPecks_73 rec z.1 z.2)
theorem TX3_followPecks_73 (C : Cx p s m args meth c cX3_followPecks 3 RX3 wsX3_followPecks none D vwCl (tysC T) A true nwL) {so : Sg}   : ∀ (v1 : Int32) (sg : Sg), LX3_followPecks_73 (v1, sg) = some so → ∀ (H : Heap) (locs : List Loc) (ls : Array Slot), WS ZC D vwCl T ad sg lg A s.heap H locs → lv_has ls 3 [(0, .ref (ad 7)), (1, .int v1)] → W p l e rmX3_followPecks s m args below meth c H locs 0 0 (MQ below (QV ZC D vwCl T (tysC T) A (fun z => ad = z) so lg) args s 0 0 A) (F0 m 73 ls []) := by
  have key : ∀ z : (Int32 × Sg), LX3_followPecks_73  z = some so → ∀ (H : Heap) (locs : List Loc) (ls : Array Slot), WS ZC D vwCl T ad z.2 lg A s.heap H locs → lv_has ls 3 [(0, .ref (ad 7)), (1, .int z.1)] → W p l e rmX3_followPecks s m args below meth c H locs 0 0 (MQ below (QV ZC D vwCl T (tysC T) A (fun z => ad = z) so lg) args s 0 0 A) (F0 m 73 ls []) := by
    intro z h
    unfold LX3_followPecks_73 at h
    exact loop_ind (fun rec z => fX3_followPecks_73 rec z.1 z.2) (y := so) (P := fun z => ∀ (H : Heap) (locs : List Loc) (ls : Array Slot), WS ZC D vwCl T ad z.2 lg A s.heap H locs → lv_has ls 3 [(0, .ref (ad 7)), (1, .int z.1)] → W p l e rmX3_followPecks s m args below meth c H locs 0 0 (MQ below (QV ZC D vwCl T (tysC T) A (fun z => ad = z) so lg) args s 0 0 A) (F0 m 73 ls [])) (fun rec hrec z h H locs ls hw hl => tX3_followPecks_73 C  (fun v1 sg => hrec (v1, sg)) z.1 z.2 H locs ls hw hl h) z h
  exact fun v1 sg => key (v1, sg)
def fX3_followPecks_59 (r2 : (Int32 × Sg) → Option (Sg)) (r24 : (Int32 × Int32 × Sg) → Option (Sg)) (v1 : Int32) (v2 : Int32) (sg : Sg) : Option (Sg) :=
  lt (v2 + (1 : Int32)) (fun x1 => r24 (v1, x1, sg))
set_option maxHeartbeats 4000000 in
set_option maxRecDepth 100000 in
theorem tX3_followPecks_59 (C : Cx p s m args meth c cX3_followPecks 3 RX3 wsX3_followPecks none D vwCl (tysC T) A true nwL) {so : Sg} {r2 : (Int32 × Sg) → Option (Sg)} {r24 : (Int32 × Int32 × Sg) → Option (Sg)} (hr2 : ∀ (v1 : Int32) (sg : Sg), r2 (v1, sg) = some so → ∀ (H : Heap) (locs : List Loc) (ls : Array Slot), WS ZC D vwCl T ad sg lg A s.heap H locs → lv_has ls 3 [(0, .ref (ad 7)), (1, .int v1)] → W p l e rmX3_followPecks s m args below meth c H locs 0 0 (MQ below (QV ZC D vwCl T (tysC T) A (fun z => ad = z) so lg) args s 0 0 A) (F0 m 2 ls [])) (hr24 : ∀ (v1 : Int32) (v2 : Int32) (sg : Sg), r24 (v1, v2, sg) = some so → ∀ (H : Heap) (locs : List Loc) (ls : Array Slot), WS ZC D vwCl T ad sg lg A s.heap H locs → lv_has ls 3 [(0, .ref (ad 7)), (1, .int v1), (2, .int v2)] → W p l e rmX3_followPecks s m args below meth c H locs 0 0 (MQ below (QV ZC D vwCl T (tysC T) A (fun z => ad = z) so lg) args s 0 0 A) (F0 m 24 ls [])) : ∀ (v1 : Int32) (v2 : Int32) (sg : Sg), ∀ (H : Heap) (locs : List Loc) (ls : Array Slot), WS ZC D vwCl T ad sg lg A s.heap H locs → lv_has ls 3 [(0, .ref (ad 7)), (1, .int v1), (2, .int v2)] → fX3_followPecks_59 r2 r24 v1 v2 sg = some so → W p l e rmX3_followPecks s m args below meth c H locs 0 0 (MQ below (QV ZC D vwCl T (tysC T) A (fun z => ad = z) so lg) args s 0 0 A) (F0 m 59 ls []) := by
  obtain ⟨⟨hx, hb, hml, hown, hts⟩, hr, hlk, hK, hA, hsp⟩ := id C
  intro v1 v2 sg H locs ls hw hl h
  unfold fX3_followPecks_59 at h
  obtain ⟨x1, ex1⟩ : ∃ z : Int32, z = (v2 + (1 : Int32)) := ⟨_, rfl⟩
  replace h := lt_get h x1 ex1
  refine lv_iinc (v := x1) (lv' := [(2, .int x1), (0, .ref (ad 7)), (1, .int v1)]) hx hb dX3_followPecks_59 hl (k := 2) rfl (by rw [ex1]; rfl) (by decide) rfl (fun ls hl => ?_)
  refine lv_goto (tgt := 24) hx hb dX3_followPecks_62 (by decide) ?_
  exact hr24 v1 x1 sg h _ _ _ hw (lv_sub hl [1, 2, 0] rfl)
def fX3_followPecks_24 (r2 : (Int32 × Sg) → Option (Sg)) (r24 : (Int32 × Int32 × Sg) → Option (Sg)) (v1 : Int32) (v2 : Int32) (sg : Sg) : Option (Sg) :=
  (if (sg 3 2) ≤ v2 then lt (v1 + (1 : Int32)) (fun x2 => r2 (x2, sg)) else bnd2 (fX8_peckOf v1 v2 sg) (fun y3 sg4 => (if y3 ≤ 0 then fX3_followPecks_59 r2 r24 v1 v2 sg4 else gin v1 12 (lt ((sg4 36 v1.toNatClampNeg) ||| ((1 : Int32) <<< (v2 &&& 31))) (fun x8 => gin v1 12 (lt (up2 sg4 36 v1.toNatClampNeg x8) (fun sg10 => fX3_followPecks_59 r2 r24 v1 v2 sg10)))))))
set_option maxHeartbeats 4000000 in
set_option maxRecDepth 100000 in
theorem tX3_followPecks_24 (C : Cx p s m args meth c cX3_followPecks 3 RX3 wsX3_followPecks none D vwCl (tysC T) A true nwL) {so : Sg} {r2 : (Int32 × Sg) → Option (Sg)} {r24 : (Int32 × Int32 × Sg) → Option (Sg)} (hr2 : ∀ (v1 : Int32) (sg : Sg), r2 (v1, sg) = some so → ∀ (H : Heap) (locs : List Loc) (ls : Array Slot), WS ZC D vwCl T ad sg lg A s.heap H locs → lv_has ls 3 [(0, .ref (ad 7)), (1, .int v1)] → W p l e rmX3_followPecks s m args below meth c H locs 0 0 (MQ below (QV ZC D vwCl T (tysC T) A (fun z => ad = z) so lg) args s 0 0 A) (F0 m 2 ls [])) (hr24 : ∀ (v1 : Int32) (v2 : Int32) (sg : Sg), r24 (v1, v2, sg) = some so → ∀ (H : Heap) (locs : List Loc) (ls : Array Slot), WS ZC D vwCl T ad sg lg A s.heap H locs → lv_has ls 3 [(0, .ref (ad 7)), (1, .int v1), (2, .int v2)] → W p l e rmX3_followPecks s m args below meth c H locs 0 0 (MQ below (QV ZC D vwCl T (tysC T) A (fun z => ad = z) so lg) args s 0 0 A) (F0 m 24 ls [])) : ∀ (v1 : Int32) (v2 : Int32) (sg : Sg), ∀ (H : Heap) (locs : List Loc) (ls : Array Slot), WS ZC D vwCl T ad sg lg A s.heap H locs → lv_has ls 3 [(0, .ref (ad 7)), (1, .int v1), (2, .int v2)] → fX3_followPecks_24 r2 r24 v1 v2 sg = some so → W p l e rmX3_followPecks s m args below meth c H locs 0 0 (MQ below (QV ZC D vwCl T (tysC T) A (fun z => ad = z) so lg) args s 0 0 A) (F0 m 24 ls []) := by
  obtain ⟨⟨hx, hb, hml, hown, hts⟩, hr, hlk, hK, hA, hsp⟩ := id C
  intro v1 v2 sg H locs ls hw hl h
  unfold fX3_followPecks_24 at h
  refine lv_iload_n hx hb dX3_followPecks_24 rfl (lv_at hl 2 rfl) ?_
  refine lv_aload_n hx hb dX3_followPecks_25 rfl (lv_at hl 0 rfl) ?_
  refine r_getR (ci := 3) (C := RX3) (U := TX3) (N := 5) hx hb hts kX3_followPecks_iX3 hown hK hw 7 (by decide) rfl rfl 0 (by decide) 3 rfl (hts _ kX3_followPecks_f22) (fun _ h9 => h9) dX3_followPecks_26 ?_
  refine r_getI (ci := 8) (C := RX8) (U := TX8) (N := 10) hx hb hts kX3_followPecks_iX8 hown hK hw 3 (by decide) rfl rfl 2 (by decide) rfl (hts _ kX3_followPecks_f44) (fun _ h9 => h9) dX3_followPecks_29 ?_
  refine lv_icmp_ge (tgt := 65) hx hb dX3_followPecks_32 (by decide) (fun c1 => ?_) (fun c1 => ?_)
  · replace h := ite_t h c1
    obtain ⟨x2, ex2⟩ : ∃ z : Int32, z = (v1 + (1 : Int32)) := ⟨_, rfl⟩
    replace h := lt_get h x2 ex2
    refine lv_iinc (v := x2) (lv' := [(1, .int x2), (0, .ref (ad 7)), (2, .int v2)]) hx hb dX3_followPecks_65 hl (k := 1) rfl (by rw [ex2]; rfl) (by decide) rfl (fun ls hl => ?_)
    refine lv_goto (tgt := 2) hx hb dX3_followPecks_68 (by decide) ?_
    exact hr2 x2 sg h _ _ _ hw (lv_sub hl [1, 0] rfl)
  · replace h := ite_f h c1
    refine lv_aload_n hx hb dX3_followPecks_35 rfl (lv_at hl 0 rfl) ?_
    refine r_getR (ci := 3) (C := RX3) (U := TX3) (N := 5) hx hb hts kX3_followPecks_iX3 hown hK hw 7 (by decide) rfl rfl 0 (by decide) 3 rfl (hts _ kX3_followPecks_f22) (fun _ h9 => h9) dX3_followPecks_36 ?_
    refine lv_iload_n hx hb dX3_followPecks_39 rfl (lv_at hl 1 rfl) ?_
    refine lv_iload_n hx hb dX3_followPecks_40 rfl (lv_at hl 2 rfl) ?_
    obtain ⟨y3, sg4, hq5, h2⟩ := bnd2_some h
    replace h := h2
    clear h2
    refine r_cVi (As := [.int v1, .int v2]) (rest := []) C hw 3 (by decide) (ci := 8) rfl rfl (mX8_peckOf l D T ad lg H.size v1 v2 sg hq5) (cwV 2 hts gX3_followPecks_X8_peckOf rfl rfl rfl (by decide +kernel) ⟨Nat.le_of_ble_eq_true rfl, Nat.le_of_ble_eq_true rfl⟩) rfl hl.1 rfl (Nat.le_of_ble_eq_true rfl) dX3_followPecks_41 ⟨Nat.le_of_ble_eq_true rfl, Nat.le_of_ble_eq_true rfl⟩ (fun ad' H locs hp hw => ?_)
    subst hp
    refine W.widen (k := 0) (n := 0) (by decide) (by decide) ?_
    refine lv_if_le (tgt := 59) hx hb dX3_followPecks_44 (by decide) (fun c6 => ?_) (fun c6 => ?_)
    · replace h := ite_t h c6
      exact tX3_followPecks_59 C hr2 hr24 v1 v2 sg4 _ _ _ hw (lv_sub hl [0, 1, 2] rfl) h
    · replace h := ite_f h c6
      refine lv_aload_n hx hb dX3_followPecks_47 rfl (lv_at hl 0 rfl) ?_
      refine r_getR (ci := 3) (C := RX3) (U := TX3) (N := 5) hx hb hts kX3_followPecks_iX3 hown hK hw 7 (by decide) rfl rfl 4 (by decide) 36 rfl (hts _ kX3_followPecks_f19) (fun _ h9 => h9) dX3_followPecks_48 ?_
      refine lv_iload_n hx hb dX3_followPecks_51 rfl (lv_at hl 1 rfl) ?_
      refine lv_dup2_11 hx hb dX3_followPecks_52 rfl rfl ?_
      have hi7 := (gin_some h).1
      replace h := (gin_some h).2
      refine r_iald hx hb hK hw 36 0 12 (by decide) rfl rfl rfl hi7 dX3_followPecks_53 ?_
      refine lv_iconst (v := (1 : Int32)) hx hb dX3_followPecks_54 (by decide) ?_
      refine lv_iload_n hx hb dX3_followPecks_55 rfl (lv_at hl 2 rfl) ?_
      refine lv_ishl hx hb dX3_followPecks_56 ?_
      refine lv_ior hx hb dX3_followPecks_57 ?_
      refine lv_topi (fun x8 ex8 => ?_)
      replace h := lt_get h x8 ex8
      have hi9 := (gin_some h).1
      replace h := (gin_some h).2
      refine r_iast ZC_ok hx hb hK hw 36 0 12 (by decide) rfl rfl rfl hi9 dX3_followPecks_58 (fun H locs sg10 esg10 hw => ?_)
      replace h := lt_get h sg10 esg10
      exact tX3_followPecks_59 C hr2 hr24 v1 v2 sg10 _ _ _ hw (lv_sub hl [0, 1, 2] rfl) h
def LX3_followPecks_24 (r2 : (Int32 × Sg) → Option (Sg)) : (Int32 × Int32 × Sg) → Option (Sg) := loop (fun rec z => fX3_followPecks_24 r2 rec z.1 z.2.1 z.2.2)
theorem TX3_followPecks_24 (C : Cx p s m args meth c cX3_followPecks 3 RX3 wsX3_followPecks none D vwCl (tysC T) A true nwL) {so : Sg} {r2 : (Int32 × Sg) → Option (Sg)} (hr2 : ∀ (v1 : Int32) (sg : Sg), r2 (v1, sg) = some so → ∀ (H : Heap) (locs : List Loc) (ls : Array Slot), WS ZC D vwCl T ad sg lg A s.heap H locs → lv_has ls 3 [(0, .ref (ad 7)), (1, .int v1)] → W p l e rmX3_followPecks s m args below meth c H locs 0 0 (MQ below (QV ZC D vwCl T (tysC T) A (fun z => ad = z) so lg) args s 0 0 A) (F0 m 2 ls [])) : ∀ (v1 : Int32) (v2 : Int32) (sg : Sg), LX3_followPecks_24 r2 (v1, v2, sg) = some so → ∀ (H : Heap) (locs : List Loc) (ls : Array Slot), WS ZC D vwCl T ad sg lg A s.heap H locs → lv_has ls 3 [(0, .ref (ad 7)), (1, .int v1), (2, .int v2)] → W p l e rmX3_followPecks s m args below meth c H locs 0 0 (MQ below (QV ZC D vwCl T (tysC T) A (fun z => ad = z) so lg) args s 0 0 A) (F0 m 24 ls []) := by
  have key : ∀ z : (Int32 × Int32 × Sg), LX3_followPecks_24 r2 z = some so → ∀ (H : Heap) (locs : List Loc) (ls : Array Slot), WS ZC D vwCl T ad z.2.2 lg A s.heap H locs → lv_has ls 3 [(0, .ref (ad 7)), (1, .int z.1), (2, .int z.2.1)] → W p l e rmX3_followPecks s m args below meth c H locs 0 0 (MQ below (QV ZC D vwCl T (tysC T) A (fun z => ad = z) so lg) args s 0 0 A) (F0 m 24 ls []) := by
    intro z h
    unfold LX3_followPecks_24 at h
    exact loop_ind (fun rec z => fX3_followPecks_24 r2 rec z.1 z.2.1 z.2.2) (y := so) (P := fun z => ∀ (H : Heap) (locs : List Loc) (ls : Array Slot), WS ZC D vwCl T ad z.2.2 lg A s.heap H locs → lv_has ls 3 [(0, .ref (ad 7)), (1, .int z.1), (2, .int z.2.1)] → W p l e rmX3_followPecks s m args below meth c H locs 0 0 (MQ below (QV ZC D vwCl T (tysC T) A (fun z => ad = z) so lg) args s 0 0 A) (F0 m 24 ls [])) (fun rec hrec z h H locs ls hw hl => tX3_followPecks_24 C hr2 (fun v1 v2 sg => hrec (v1, v2, sg)) z.1 z.2.1 z.2.2 H locs ls hw hl h) z h
  exact fun v1 v2 sg => key (v1, v2, sg)
def fX3_followPecks_2 (r2 : (Int32 × Sg) → Option (Sg)) (v1 : Int32) (sg : Sg) : Option (Sg) :=
  (if (sg 3 2) ≤ v1 then LX3_followPecks_73 ((0 : Int32), sg) else lt ((1 : Int32) <<< (v1 &&& 31)) (fun x2 => gin v1 12 (lt (up2 sg 36 v1.toNatClampNeg x2) (fun sg4 => LX3_followPecks_24 r2 (v1, (0 : Int32), sg4)))))
set_option maxHeartbeats 4000000 in
set_option maxRecDepth 100000 in
theorem tX3_followPecks_2 (C : Cx p s m args meth c cX3_followPecks 3 RX3 wsX3_followPecks none D vwCl (tysC T) A true nwL) {so : Sg} {r2 : (Int32 × Sg) → Option (Sg)} (hr2 : ∀ (v1 : Int32) (sg : Sg), r2 (v1, sg) = some so → ∀ (H : Heap) (locs : List Loc) (ls : Array Slot), WS ZC D vwCl T ad sg lg A s.heap H locs → lv_has ls 3 [(0, .ref (ad 7)), (1, .int v1)] → W p l e rmX3_followPecks s m args below meth c H locs 0 0 (MQ below (QV ZC D vwCl T (tysC T) A (fun z => ad = z) so lg) args s 0 0 A) (F0 m 2 ls [])) : ∀ (v1 : Int32) (sg : Sg), ∀ (H : Heap) (locs : List Loc) (ls : Array Slot), WS ZC D vwCl T ad sg lg A s.heap H locs → lv_has ls 3 [(0, .ref (ad 7)), (1, .int v1)] → fX3_followPecks_2 r2 v1 sg = some so → W p l e rmX3_followPecks s m args below meth c H locs 0 0 (MQ below (QV ZC D vwCl T (tysC T) A (fun z => ad = z) so lg) args s 0 0 A) (F0 m 2 ls []) := by
  obtain ⟨⟨hx, hb, hml, hown, hts⟩, hr, hlk, hK, hA, hsp⟩ := id C
  intro v1 sg H locs ls hw hl h
  unfold fX3_followPecks_2 at h
  refine lv_iload_n hx hb dX3_followPecks_2 rfl (lv_at hl 1 rfl) ?_
  refine lv_aload_n hx hb dX3_followPecks_3 rfl (lv_at hl 0 rfl) ?_
  refine r_getR (ci := 3) (C := RX3) (U := TX3) (N := 5) hx hb hts kX3_followPecks_iX3 hown hK hw 7 (by decide) rfl rfl 0 (by decide) 3 rfl (hts _ kX3_followPecks_f22) (fun _ h9 => h9) dX3_followPecks_4 ?_
  refine r_getI (ci := 8) (C := RX8) (U := TX8) (N := 10) hx hb hts kX3_followPecks_iX8 hown hK hw 3 (by decide) rfl rfl 2 (by decide) rfl (hts _ kX3_followPecks_f44) (fun _ h9 => h9) dX3_followPecks_7 ?_
  refine lv_icmp_ge (tgt := 71) hx hb dX3_followPecks_10 (by decide) (fun c1 => ?_) (fun c1 => ?_)
  · replace h := ite_t h c1
    refine lv_iconst (v := (0 : Int32)) hx hb dX3_followPecks_71 (by decide) ?_
    refine lv_istore_n (lv' := [(1, .int (0 : Int32)), (0, .ref (ad 7))]) hx hb dX3_followPecks_72 rfl hl (by decide) rfl (fun ls hl => ?_)
    exact TX3_followPecks_73 C (0 : Int32) sg h _ _ _ hw (lv_sub hl [1, 0] rfl)
  · replace h := ite_f h c1
    refine lv_aload_n hx hb dX3_followPecks_13 rfl (lv_at hl 0 rfl) ?_
    refine r_getR (ci := 3) (C := RX3) (U := TX3) (N := 5) hx hb hts kX3_followPecks_iX3 hown hK hw 7 (by decide) rfl rfl 4 (by decide) 36 rfl (hts _ kX3_followPecks_f19) (fun _ h9 => h9) dX3_followPecks_14 ?_
    refine lv_iload_n hx hb dX3_followPecks_17 rfl (lv_at hl 1 rfl) ?_
    refine lv_iconst (v := (1 : Int32)) hx hb dX3_followPecks_18 (by decide) ?_
    refine lv_iload_n hx hb dX3_followPecks_19 rfl (lv_at hl 1 rfl) ?_
    refine lv_ishl hx hb dX3_followPecks_20 ?_
    refine lv_topi (fun x2 ex2 => ?_)
    replace h := lt_get h x2 ex2
    have hi3 := (gin_some h).1
    replace h := (gin_some h).2
    refine r_iast ZC_ok hx hb hK hw 36 0 12 (by decide) rfl rfl rfl hi3 dX3_followPecks_21 (fun H locs sg4 esg4 hw => ?_)
    replace h := lt_get h sg4 esg4
    refine lv_iconst (v := (0 : Int32)) hx hb dX3_followPecks_22 (by decide) ?_
    refine lv_istore_n (lv' := [(2, .int (0 : Int32)), (0, .ref (ad 7)), (1, .int v1)]) hx hb dX3_followPecks_23 rfl hl (by decide) rfl (fun ls hl => ?_)
    exact TX3_followPecks_24 C hr2 v1 (0 : Int32) sg4 h _ _ _ hw (lv_sub hl [1, 2, 0] rfl)
def LX3_followPecks_2  : (Int32 × Sg) → Option (Sg) := loop (fun rec z => fX3_followPecks_2 rec z.1 z.2)
theorem TX3_followPecks_2 (C : Cx p s m args meth c cX3_followPecks 3 RX3 wsX3_followPecks none D vwCl (tysC T) A true nwL) {so : Sg}   : ∀ (v1 : Int32) (sg : Sg), LX3_followPecks_2 (v1, sg) = some so → ∀ (H : Heap) (locs : List Loc) (ls : Array Slot), WS ZC D vwCl T ad sg lg A s.heap H locs → lv_has ls 3 [(0, .ref (ad 7)), (1, .int v1)] → W p l e rmX3_followPecks s m args below meth c H locs 0 0 (MQ below (QV ZC D vwCl T (tysC T) A (fun z => ad = z) so lg) args s 0 0 A) (F0 m 2 ls []) := by
  have key : ∀ z : (Int32 × Sg), LX3_followPecks_2  z = some so → ∀ (H : Heap) (locs : List Loc) (ls : Array Slot), WS ZC D vwCl T ad z.2 lg A s.heap H locs → lv_has ls 3 [(0, .ref (ad 7)), (1, .int z.1)] → W p l e rmX3_followPecks s m args below meth c H locs 0 0 (MQ below (QV ZC D vwCl T (tysC T) A (fun z => ad = z) so lg) args s 0 0 A) (F0 m 2 ls []) := by
    intro z h
    unfold LX3_followPecks_2 at h
    exact loop_ind (fun rec z => fX3_followPecks_2 rec z.1 z.2) (y := so) (P := fun z => ∀ (H : Heap) (locs : List Loc) (ls : Array Slot), WS ZC D vwCl T ad z.2 lg A s.heap H locs → lv_has ls 3 [(0, .ref (ad 7)), (1, .int z.1)] → W p l e rmX3_followPecks s m args below meth c H locs 0 0 (MQ below (QV ZC D vwCl T (tysC T) A (fun z => ad = z) so lg) args s 0 0 A) (F0 m 2 ls [])) (fun rec hrec z h H locs ls hw hl => tX3_followPecks_2 C  (fun v1 sg => hrec (v1, sg)) z.1 z.2 H locs ls hw hl h) z h
  exact fun v1 sg => key (v1, sg)
def fX3_followPecks  (sg : Sg) : Option (Sg) :=
  LX3_followPecks_2 ((0 : Int32), sg)
set_option maxHeartbeats 4000000 in
set_option maxRecDepth 100000 in
theorem tX3_followPecks_0 (C : Cx p s m args meth c cX3_followPecks 3 RX3 wsX3_followPecks none D vwCl (tysC T) A true nwL) {so : Sg}   : ∀ (sg : Sg), ∀ (H : Heap) (locs : List Loc) (ls : Array Slot), WS ZC D vwCl T ad sg lg A s.heap H locs → lv_has ls 3 [(0, .ref (ad 7))] → fX3_followPecks sg = some so → W p l e rmX3_followPecks s m args below meth c H locs 0 0 (MQ below (QV ZC D vwCl T (tysC T) A (fun z => ad = z) so lg) args s 0 0 A) (F0 m 0 ls []) := by
  obtain ⟨⟨hx, hb, hml, hown, hts⟩, hr, hlk, hK, hA, hsp⟩ := id C
  intro sg H locs ls hw hl h
  unfold fX3_followPecks at h
  refine lv_iconst (v := (0 : Int32)) hx hb dX3_followPecks_0 (by decide) ?_
  refine lv_istore_n (lv' := [(1, .int (0 : Int32)), (0, .ref (ad 7))]) hx hb dX3_followPecks_1 rfl hl (by decide) rfl (fun ls hl => ?_)
  exact TX3_followPecks_2 C (0 : Int32) sg h _ _ _ hw (lv_sub hl [1, 0] rfl)
theorem mX3_followPecks (l : Launch) (D : va_G) (T : Nat → ClassId) (ad : Nat → Nat) (lg : Lg) (sz : Nat)   (sg : Sg) {so : Sg} (h : fX3_followPecks sg = some so) : Met l yX3_followPecks wsX3_followPecks rmX3_followPecks (PreZ ZC D vwCl T (tysC T) ad sg lg true nwL [.ref (ad 7)] sz) (QV ZC D vwCl T (tysC T) (va_A (zwd ZC T ad sg lg) sz) (fun z => ad = z) so lg) 0 0 (va_A (zwd ZC T ad sg lg) sz) :=
  metZ [.ref (ad 7)] sz (by decide) rfl (Nat.le_of_ble_eq_true rfl) (fun p e s m below meth c ls C hw hl => tX3_followPecks_0 C sg _ _ _ hw hl h)
-- PeckYard$Groups.comersTo(I)I
def rmX3_comersTo : Room := { frames := 1, cells := 0, slots := 0, locals := 21 }
theorem kX3_comersTo_f22 : Cond.fieldLink RX3 22 "PeckYard$Groups" "muster" "LPeckYard$Muster;" ∈ wsX3_comersTo := by decide +kernel
theorem kX3_comersTo_iX3 : ∀ w ∈ u_ws RX3 TX3 5, w ∈ wsX3_comersTo := by decide +kernel
theorem kX3_comersTo_f44 : Cond.fieldLink RX3 44 "PeckYard$Muster" "size" "I" ∈ wsX3_comersTo := by decide +kernel
theorem kX3_comersTo_iX8 : ∀ w ∈ u_ws RX8 TX8 10, w ∈ wsX3_comersTo := by decide +kernel
theorem kX3_comersTo_f19 : Cond.fieldLink RX3 19 "PeckYard$Groups" "reached" "[I" ∈ wsX3_comersTo := by decide +kernel
theorem kX3_comersTo_ini_X11 : Cond.initialized "PeckYard" ∈ wsX3_comersTo := by decide +kernel
theorem kX3_comersTo_s49 : Cond.static yX11_isIn ∈ wsX3_comersTo := by decide +kernel
def fX3_comersTo_34 (r4 : (Int32 × Int32 × Int32 × Sg) → Option (Int32 × Sg)) (v1 : Int32) (v2 : Int32) (v3 : Int32) (sg : Sg) : Option (Int32 × Sg) :=
  lt (v3 + (1 : Int32)) (fun x1 => r4 (v1, v2, x1, sg))
set_option maxHeartbeats 4000000 in
set_option maxRecDepth 100000 in
theorem tX3_comersTo_34 (C : Cx p s m args meth c cX3_comersTo 4 RX3 wsX3_comersTo (some .int) D vwCl (tysC T) A true nwL) {ro : Int32} {so : Sg} {r4 : (Int32 × Int32 × Int32 × Sg) → Option (Int32 × Sg)} (hr4 : ∀ (v1 : Int32) (v2 : Int32) (v3 : Int32) (sg : Sg), r4 (v1, v2, v3, sg) = some (ro, so) → ∀ (H : Heap) (locs : List Loc) (ls : Array Slot), WS ZC D vwCl T ad sg lg A s.heap H locs → lv_has ls 4 [(0, .ref (ad 7)), (1, .int v1), (2, .int v2), (3, .int v3)] → W p l e rmX3_comersTo s m args below meth c H locs 0 0 (MQ below (QI ZC D vwCl T (tysC T) A (fun z => ad = z) ro so lg) args s 0 0 A) (F0 m 4 ls [])) : ∀ (v1 : Int32) (v2 : Int32) (v3 : Int32) (sg : Sg), ∀ (H : Heap) (locs : List Loc) (ls : Array Slot), WS ZC D vwCl T ad sg lg A s.heap H locs → lv_has ls 4 [(0, .ref (ad 7)), (1, .int v1), (2, .int v2), (3, .int v3)] → fX3_comersTo_34 r4 v1 v2 v3 sg = some (ro, so) → W p l e rmX3_comersTo s m args below meth c H locs 0 0 (MQ below (QI ZC D vwCl T (tysC T) A (fun z => ad = z) ro so lg) args s 0 0 A) (F0 m 34 ls []) := by
  obtain ⟨⟨hx, hb, hml, hown, hts⟩, hr, hlk, hK, hA, hsp⟩ := id C
  intro v1 v2 v3 sg H locs ls hw hl h
  unfold fX3_comersTo_34 at h
  obtain ⟨x1, ex1⟩ : ∃ z : Int32, z = (v3 + (1 : Int32)) := ⟨_, rfl⟩
  replace h := lt_get h x1 ex1
  refine lv_iinc (v := x1) (lv' := [(3, .int x1), (0, .ref (ad 7)), (1, .int v1), (2, .int v2)]) hx hb dX3_comersTo_34 hl (k := 3) rfl (by rw [ex1]; rfl) (by decide) rfl (fun ls hl => ?_)
  refine lv_goto (tgt := 4) hx hb dX3_comersTo_37 (by decide) ?_
  exact hr4 v1 v2 x1 sg h _ _ _ hw (lv_sub hl [1, 2, 3, 0] rfl)
def fX3_comersTo_4 (r4 : (Int32 × Int32 × Int32 × Sg) → Option (Int32 × Sg)) (v1 : Int32) (v2 : Int32) (v3 : Int32) (sg : Sg) : Option (Int32 × Sg) :=
  (if (sg 3 2) ≤ v3 then some (v2, sg) else gin v3 12 (bnd2 (fX11_isIn (sg 36 v3.toNatClampNeg) v1 sg) (fun y3 sg4 => (if y3 = 0 then fX3_comersTo_34 r4 v1 v2 v3 sg4 else lt (v2 ||| ((1 : Int32) <<< (v3 &&& 31))) (fun x8 => fX3_comersTo_34 r4 v1 x8 v3 sg4)))))
set_option maxHeartbeats 4000000 in
set_option maxRecDepth 100000 in
theorem tX3_comersTo_4 (C : Cx p s m args meth c cX3_comersTo 4 RX3 wsX3_comersTo (some .int) D vwCl (tysC T) A true nwL) {ro : Int32} {so : Sg} {r4 : (Int32 × Int32 × Int32 × Sg) → Option (Int32 × Sg)} (hr4 : ∀ (v1 : Int32) (v2 : Int32) (v3 : Int32) (sg : Sg), r4 (v1, v2, v3, sg) = some (ro, so) → ∀ (H : Heap) (locs : List Loc) (ls : Array Slot), WS ZC D vwCl T ad sg lg A s.heap H locs → lv_has ls 4 [(0, .ref (ad 7)), (1, .int v1), (2, .int v2), (3, .int v3)] → W p l e rmX3_comersTo s m args below meth c H locs 0 0 (MQ below (QI ZC D vwCl T (tysC T) A (fun z => ad = z) ro so lg) args s 0 0 A) (F0 m 4 ls [])) : ∀ (v1 : Int32) (v2 : Int32) (v3 : Int32) (sg : Sg), ∀ (H : Heap) (locs : List Loc) (ls : Array Slot), WS ZC D vwCl T ad sg lg A s.heap H locs → lv_has ls 4 [(0, .ref (ad 7)), (1, .int v1), (2, .int v2), (3, .int v3)] → fX3_comersTo_4 r4 v1 v2 v3 sg = some (ro, so) → W p l e rmX3_comersTo s m args below meth c H locs 0 0 (MQ below (QI ZC D vwCl T (tysC T) A (fun z => ad = z) ro so lg) args s 0 0 A) (F0 m 4 ls []) := by
  obtain ⟨⟨hx, hb, hml, hown, hts⟩, hr, hlk, hK, hA, hsp⟩ := id C
  intro v1 v2 v3 sg H locs ls hw hl h
  unfold fX3_comersTo_4 at h
  refine lv_iload_n hx hb dX3_comersTo_4 rfl (lv_at hl 3 rfl) ?_
  refine lv_aload_n hx hb dX3_comersTo_5 rfl (lv_at hl 0 rfl) ?_
  refine r_getR (ci := 3) (C := RX3) (U := TX3) (N := 5) hx hb hts kX3_comersTo_iX3 hown hK hw 7 (by decide) rfl rfl 0 (by decide) 3 rfl (hts _ kX3_comersTo_f22) (fun _ h9 => h9) dX3_comersTo_6 ?_
  refine r_getI (ci := 8) (C := RX8) (U := TX8) (N := 10) hx hb hts kX3_comersTo_iX8 hown hK hw 3 (by decide) rfl rfl 2 (by decide) rfl (hts _ kX3_comersTo_f44) (fun _ h9 => h9) dX3_comersTo_9 ?_
  refine lv_icmp_ge (tgt := 40) hx hb dX3_comersTo_12 (by decide) (fun c1 => ?_) (fun c1 => ?_)
  · replace h := ite_t h c1
    refine lv_iload_n hx hb dX3_comersTo_40 rfl (lv_at hl 2 rfl) ?_
    cases h
    exact r_iret C hw rfl (by decide) (by decide) dX3_comersTo_41
  · replace h := ite_f h c1
    refine lv_aload_n hx hb dX3_comersTo_15 rfl (lv_at hl 0 rfl) ?_
    refine r_getR (ci := 3) (C := RX3) (U := TX3) (N := 5) hx hb hts kX3_comersTo_iX3 hown hK hw 7 (by decide) rfl rfl 4 (by decide) 36 rfl (hts _ kX3_comersTo_f19) (fun _ h9 => h9) dX3_comersTo_16 ?_
    refine lv_iload_n hx hb dX3_comersTo_19 rfl (lv_at hl 3 rfl) ?_
    have hi2 := (gin_some h).1
    replace h := (gin_some h).2
    refine r_iald hx hb hK hw 36 0 12 (by decide) rfl rfl rfl hi2 dX3_comersTo_20 ?_
    refine lv_iload_n hx hb dX3_comersTo_21 rfl (lv_at hl 1 rfl) ?_
    obtain ⟨y3, sg4, hq5, h2⟩ := bnd2_some h
    replace h := h2
    clear h2
    obtain ⟨-, -, hmt6⟩ := hsp rfl
    refine r_cNi (As := [.int (sg 36 v3.toNatClampNeg), .int v1]) (rest := []) C hw (mX11_isIn l D T ad lg H.size (sg 36 v3.toNatClampNeg) v1 sg hq5) ⟨va_cnB (host := "PeckYard") 2 hts gX3_comersTo_X11_isIn_n49 rfl rfl rfl (hmt6 _ nw_X3_49) (hts _ kX3_comersTo_ini_X11) (by decide +kernel) ⟨Nat.le_of_ble_eq_true rfl, Nat.le_of_ble_eq_true rfl⟩, (hts _ kX3_comersTo_s49), trivial⟩ rfl hl.1 rfl (Nat.le_of_ble_eq_true rfl) dX3_comersTo_22 ⟨Nat.le_of_ble_eq_true rfl, Nat.le_of_ble_eq_true rfl⟩ (fun ad' H locs hp hw => ?_)
    subst hp
    refine W.widen (k := 0) (n := 0) (by decide) (by decide) ?_
    refine lv_if_eq (tgt := 34) hx hb dX3_comersTo_25 (by decide) (fun c7 => ?_) (fun c7 => ?_)
    · replace h := ite_t h c7
      exact tX3_comersTo_34 C hr4 v1 v2 v3 sg4 _ _ _ hw (lv_sub hl [0, 1, 2, 3] rfl) h
    · replace h := ite_f h c7
      refine lv_iload_n hx hb dX3_comersTo_28 rfl (lv_at hl 2 rfl) ?_
      refine lv_iconst (v := (1 : Int32)) hx hb dX3_comersTo_29 (by decide) ?_
      refine lv_iload_n hx hb dX3_comersTo_30 rfl (lv_at hl 3 rfl) ?_
      refine lv_ishl hx hb dX3_comersTo_31 ?_
      refine lv_ior hx hb dX3_comersTo_32 ?_
      refine lv_topi (fun x8 ex8 => ?_)
      replace h := lt_get h x8 ex8
      refine lv_istore_n (lv' := [(2, .int x8), (0, .ref (ad 7)), (1, .int v1), (3, .int v3)]) hx hb dX3_comersTo_33 rfl hl (by decide) rfl (fun ls hl => ?_)
      exact tX3_comersTo_34 C hr4 v1 x8 v3 sg4 _ _ _ hw (lv_sub hl [1, 2, 0, 3] rfl) h
def LX3_comersTo_4  : (Int32 × Int32 × Int32 × Sg) → Option (Int32 × Sg) := loop (fun rec z => fX3_comersTo_4 rec z.1 z.2.1 z.2.2.1 z.2.2.2)
theorem TX3_comersTo_4 (C : Cx p s m args meth c cX3_comersTo 4 RX3 wsX3_comersTo (some .int) D vwCl (tysC T) A true nwL) {ro : Int32} {so : Sg}   : ∀ (v1 : Int32) (v2 : Int32) (v3 : Int32) (sg : Sg), LX3_comersTo_4 (v1, v2, v3, sg) = some (ro, so) → ∀ (H : Heap) (locs : List Loc) (ls : Array Slot), WS ZC D vwCl T ad sg lg A s.heap H locs → lv_has ls 4 [(0, .ref (ad 7)), (1, .int v1), (2, .int v2), (3, .int v3)] → W p l e rmX3_comersTo s m args below meth c H locs 0 0 (MQ below (QI ZC D vwCl T (tysC T) A (fun z => ad = z) ro so lg) args s 0 0 A) (F0 m 4 ls []) := by
  have key : ∀ z : (Int32 × Int32 × Int32 × Sg), LX3_comersTo_4  z = some (ro, so) → ∀ (H : Heap) (locs : List Loc) (ls : Array Slot), WS ZC D vwCl T ad z.2.2.2 lg A s.heap H locs → lv_has ls 4 [(0, .ref (ad 7)), (1, .int z.1), (2, .int z.2.1), (3, .int z.2.2.1)] → W p l e rmX3_comersTo s m args below meth c H locs 0 0 (MQ below (QI ZC D vwCl T (tysC T) A (fun z => ad = z) ro so lg) args s 0 0 A) (F0 m 4 ls []) := by
    intro z h
    unfold LX3_comersTo_4 at h
    exact loop_ind (fun rec z => fX3_comersTo_4 rec z.1 z.2.1 z.2.2.1 z.2.2.2) (y := (ro, so)) (P := fun z => ∀ (H : Heap) (locs : List Loc) (ls : Array Slot), WS ZC D vwCl T ad z.2.2.2 lg A s.heap H locs → lv_has ls 4 [(0, .ref (ad 7)), (1, .int z.1), (2, .int z.2.1), (3, .int z.2.2.1)] → W p l e rmX3_comersTo s m args below meth c H locs 0 0 (MQ below (QI ZC D vwCl T (tysC T) A (fun z => ad = z) ro so lg) args s 0 0 A) (F0 m 4 ls [])) (fun rec hrec z h H locs ls hw hl => tX3_comersTo_4 C  (fun v1 v2 v3 sg => hrec (v1, v2, v3, sg)) z.1 z.2.1 z.2.2.1 z.2.2.2 H locs ls hw hl h) z h
  exact fun v1 v2 v3 sg => key (v1, v2, v3, sg)
def fX3_comersTo  (v1 : Int32) (sg : Sg) : Option (Int32 × Sg) :=
  LX3_comersTo_4 (v1, (0 : Int32), (0 : Int32), sg)
set_option maxHeartbeats 4000000 in
set_option maxRecDepth 100000 in
theorem tX3_comersTo_0 (C : Cx p s m args meth c cX3_comersTo 4 RX3 wsX3_comersTo (some .int) D vwCl (tysC T) A true nwL) {ro : Int32} {so : Sg}   : ∀ (v1 : Int32) (sg : Sg), ∀ (H : Heap) (locs : List Loc) (ls : Array Slot), WS ZC D vwCl T ad sg lg A s.heap H locs → lv_has ls 4 [(0, .ref (ad 7)), (1, .int v1)] → fX3_comersTo v1 sg = some (ro, so) → W p l e rmX3_comersTo s m args below meth c H locs 0 0 (MQ below (QI ZC D vwCl T (tysC T) A (fun z => ad = z) ro so lg) args s 0 0 A) (F0 m 0 ls []) := by
  obtain ⟨⟨hx, hb, hml, hown, hts⟩, hr, hlk, hK, hA, hsp⟩ := id C
  intro v1 sg H locs ls hw hl h
  unfold fX3_comersTo at h
  refine lv_iconst (v := (0 : Int32)) hx hb dX3_comersTo_0 (by decide) ?_
  refine lv_istore_n (lv' := [(2, .int (0 : Int32)), (0, .ref (ad 7)), (1, .int v1)]) hx hb dX3_comersTo_1 rfl hl (by decide) rfl (fun ls hl => ?_)
  refine lv_iconst (v := (0 : Int32)) hx hb dX3_comersTo_2 (by decide) ?_
  refine lv_istore_n (lv' := [(3, .int (0 : Int32)), (2, .int (0 : Int32)), (0, .ref (ad 7)), (1, .int v1)]) hx hb dX3_comersTo_3 rfl hl (by decide) rfl (fun ls hl => ?_)
  exact TX3_comersTo_4 C v1 (0 : Int32) (0 : Int32) sg h _ _ _ hw (lv_sub hl [2, 3, 1, 0] rfl)
theorem mX3_comersTo (l : Launch) (D : va_G) (T : Nat → ClassId) (ad : Nat → Nat) (lg : Lg) (sz : Nat)   (v1 : Int32) (sg : Sg) {ro : Int32} {so : Sg} (h : fX3_comersTo v1 sg = some (ro, so)) : Met l yX3_comersTo wsX3_comersTo rmX3_comersTo (PreZ ZC D vwCl T (tysC T) ad sg lg true nwL [.ref (ad 7), .int v1] sz) (QI ZC D vwCl T (tysC T) (va_A (zwd ZC T ad sg lg) sz) (fun z => ad = z) ro so lg) 0 0 (va_A (zwd ZC T ad sg lg) sz) :=
  metZ [.ref (ad 7), .int v1] sz (by decide) rfl (Nat.le_of_ble_eq_true rfl) (fun p e s m below meth c ls C hw hl => tX3_comersTo_0 C v1 sg _ _ _ hw hl h)
end ZC
