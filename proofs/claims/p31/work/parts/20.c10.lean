section ZC
variable {p : Program} {l : Launch} {e : Env} {s : State} {m : MethodId} {args : Array Value} {below : List Frame} {meth : Method} {c : Code} {D : va_G} {T : Nat → ClassId} {A : Nat → Prop} {ad a : Nat → Nat} {lg : Lg}
-- java/lang/Integer.bitCount(I)I
def rmJ6_bitCount_0f7a4 : Room := { frames := 0, cells := 0, slots := 0, locals := 0 }
theorem kJ6_bitCount_0f7a4_c265 : Cond.constant RJ6 265 (1431655765) ∈ wsJ6_bitCount_0f7a4 := by decide +kernel
theorem kJ6_bitCount_0f7a4_c266 : Cond.constant RJ6 266 (858993459) ∈ wsJ6_bitCount_0f7a4 := by decide +kernel
theorem kJ6_bitCount_0f7a4_c267 : Cond.constant RJ6 267 (252645135) ∈ wsJ6_bitCount_0f7a4 := by decide +kernel
def fJ6_bitCount_0f7a4  (v0 : Int32) (sg : Sg) : Option (Int32 × Sg) :=
  lt (v0 - ((v0.toUInt32 >>> ((1 : Int32).toUInt32 &&& Int32.toUInt32 31)).toInt32 &&& (1431655765 : Int32))) (fun x1 => lt ((x1 &&& (858993459 : Int32)) + ((x1.toUInt32 >>> ((2 : Int32).toUInt32 &&& Int32.toUInt32 31)).toInt32 &&& (858993459 : Int32))) (fun x2 => lt ((x2 + (x2.toUInt32 >>> ((4 : Int32).toUInt32 &&& Int32.toUInt32 31)).toInt32) &&& (252645135 : Int32)) (fun x3 => lt (x3 + (x3.toUInt32 >>> ((8 : Int32).toUInt32 &&& Int32.toUInt32 31)).toInt32) (fun x4 => lt (x4 + (x4.toUInt32 >>> ((16 : Int32).toUInt32 &&& Int32.toUInt32 31)).toInt32) (fun x5 => some ((x5 &&& (63 : Int32)), sg))))))
set_option maxHeartbeats 4000000 in
set_option maxRecDepth 100000 in
theorem tJ6_bitCount_0f7a4_0 (C : Cx p s m args meth c cJ6_bitCount_0f7a4 1 RJ6 wsJ6_bitCount_0f7a4 (some .int) D vwCl (tysC T) A true nwL) {ro : Int32} {so : Sg}   : ∀ (v0 : Int32) (sg : Sg), ∀ (H : Heap) (locs : List Loc) (ls : Array Slot), WS ZC D vwCl T ad sg lg A s.heap H locs → lv_has ls 1 [(0, .int v0)] → fJ6_bitCount_0f7a4 v0 sg = some (ro, so) → W p l e rmJ6_bitCount_0f7a4 s m args below meth c H locs 0 0 (MQ below (QI ZC D vwCl T (tysC T) A (fun z => ad = z) ro so lg) args s 0 0 A) (F0 m 0 ls []) := by
  obtain ⟨⟨hx, hb, hml, hown, hts⟩, hr, hlk, hK, hA, hsp⟩ := id C
  intro v0 sg H locs ls hw hl h
  unfold fJ6_bitCount_0f7a4 at h
  refine lv_iload_n hx hb dJ6_bitCount_0f7a4_0 rfl (lv_at hl 0 rfl) ?_
  refine lv_iload_n hx hb dJ6_bitCount_0f7a4_1 rfl (lv_at hl 0 rfl) ?_
  refine lv_iconst (v := (1 : Int32)) hx hb dJ6_bitCount_0f7a4_2 (by decide) ?_
  refine lv_iushr (v := (v0.toUInt32 >>> ((1 : Int32).toUInt32 &&& Int32.toUInt32 31)).toInt32) hx hb dJ6_bitCount_0f7a4_3 rfl ?_
  refine lv_ldcw hx hb hown (hts _ kJ6_bitCount_0f7a4_c265) dJ6_bitCount_0f7a4_4 ?_
  refine lv_iand hx hb dJ6_bitCount_0f7a4_7 ?_
  refine lv_isub hx hb dJ6_bitCount_0f7a4_8 ?_
  refine lv_topi (fun x1 ex1 => ?_)
  replace h := lt_get h x1 ex1
  refine lv_istore_n (lv' := [(0, .int x1)]) hx hb dJ6_bitCount_0f7a4_9 rfl hl (by decide) rfl (fun ls hl => ?_)
  refine lv_iload_n hx hb dJ6_bitCount_0f7a4_10 rfl (lv_at hl 0 rfl) ?_
  refine lv_ldcw hx hb hown (hts _ kJ6_bitCount_0f7a4_c266) dJ6_bitCount_0f7a4_11 ?_
  refine lv_iand hx hb dJ6_bitCount_0f7a4_14 ?_
  refine lv_iload_n hx hb dJ6_bitCount_0f7a4_15 rfl (lv_at hl 0 rfl) ?_
  refine lv_iconst (v := (2 : Int32)) hx hb dJ6_bitCount_0f7a4_16 (by decide) ?_
  refine lv_iushr (v := (x1.toUInt32 >>> ((2 : Int32).toUInt32 &&& Int32.toUInt32 31)).toInt32) hx hb dJ6_bitCount_0f7a4_17 rfl ?_
  refine lv_ldcw hx hb hown (hts _ kJ6_bitCount_0f7a4_c266) dJ6_bitCount_0f7a4_18 ?_
  refine lv_iand hx hb dJ6_bitCount_0f7a4_21 ?_
  refine lv_iadd hx hb dJ6_bitCount_0f7a4_22 ?_
  refine lv_topi (fun x2 ex2 => ?_)
  replace h := lt_get h x2 ex2
  refine lv_istore_n (lv' := [(0, .int x2)]) hx hb dJ6_bitCount_0f7a4_23 rfl hl (by decide) rfl (fun ls hl => ?_)
  refine lv_iload_n hx hb dJ6_bitCount_0f7a4_24 rfl (lv_at hl 0 rfl) ?_
  refine lv_iload_n hx hb dJ6_bitCount_0f7a4_25 rfl (lv_at hl 0 rfl) ?_
  refine lv_iconst (v := (4 : Int32)) hx hb dJ6_bitCount_0f7a4_26 (by decide) ?_
  refine lv_iushr (v := (x2.toUInt32 >>> ((4 : Int32).toUInt32 &&& Int32.toUInt32 31)).toInt32) hx hb dJ6_bitCount_0f7a4_27 rfl ?_
  refine lv_iadd hx hb dJ6_bitCount_0f7a4_28 ?_
  refine lv_ldcw hx hb hown (hts _ kJ6_bitCount_0f7a4_c267) dJ6_bitCount_0f7a4_29 ?_
  refine lv_iand hx hb dJ6_bitCount_0f7a4_32 ?_
  refine lv_topi (fun x3 ex3 => ?_)
  replace h := lt_get h x3 ex3
  refine lv_istore_n (lv' := [(0, .int x3)]) hx hb dJ6_bitCount_0f7a4_33 rfl hl (by decide) rfl (fun ls hl => ?_)
  refine lv_iload_n hx hb dJ6_bitCount_0f7a4_34 rfl (lv_at hl 0 rfl) ?_
  refine lv_iload_n hx hb dJ6_bitCount_0f7a4_35 rfl (lv_at hl 0 rfl) ?_
  refine lv_bipush (v := (8 : Int32)) hx hb dJ6_bitCount_0f7a4_36 (by decide) ?_
  refine lv_iushr (v := (x3.toUInt32 >>> ((8 : Int32).toUInt32 &&& Int32.toUInt32 31)).toInt32) hx hb dJ6_bitCount_0f7a4_38 rfl ?_
  refine lv_iadd hx hb dJ6_bitCount_0f7a4_39 ?_
  refine lv_topi (fun x4 ex4 => ?_)
  replace h := lt_get h x4 ex4
  refine lv_istore_n (lv' := [(0, .int x4)]) hx hb dJ6_bitCount_0f7a4_40 rfl hl (by decide) rfl (fun ls hl => ?_)
  refine lv_iload_n hx hb dJ6_bitCount_0f7a4_41 rfl (lv_at hl 0 rfl) ?_
  refine lv_iload_n hx hb dJ6_bitCount_0f7a4_42 rfl (lv_at hl 0 rfl) ?_
  refine lv_bipush (v := (16 : Int32)) hx hb dJ6_bitCount_0f7a4_43 (by decide) ?_
  refine lv_iushr (v := (x4.toUInt32 >>> ((16 : Int32).toUInt32 &&& Int32.toUInt32 31)).toInt32) hx hb dJ6_bitCount_0f7a4_45 rfl ?_
  refine lv_iadd hx hb dJ6_bitCount_0f7a4_46 ?_
  refine lv_topi (fun x5 ex5 => ?_)
  replace h := lt_get h x5 ex5
  refine lv_istore_n (lv' := [(0, .int x5)]) hx hb dJ6_bitCount_0f7a4_47 rfl hl (by decide) rfl (fun ls hl => ?_)
  refine lv_iload_n hx hb dJ6_bitCount_0f7a4_48 rfl (lv_at hl 0 rfl) ?_
  refine lv_bipush (v := (63 : Int32)) hx hb dJ6_bitCount_0f7a4_49 (by decide) ?_
  refine lv_iand hx hb dJ6_bitCount_0f7a4_51 ?_
  cases h
  exact r_iret C hw rfl (by decide) (by decide) dJ6_bitCount_0f7a4_52
theorem mJ6_bitCount_0f7a4 (l : Launch) (D : va_G) (T : Nat → ClassId) (ad : Nat → Nat) (lg : Lg) (sz : Nat)   (v0 : Int32) (sg : Sg) {ro : Int32} {so : Sg} (h : fJ6_bitCount_0f7a4 v0 sg = some (ro, so)) : Met l yJ6_bitCount_0f7a4 wsJ6_bitCount_0f7a4 rmJ6_bitCount_0f7a4 (PreZ ZC D vwCl T (tysC T) ad sg lg true nwL [.int v0] sz) (QI ZC D vwCl T (tysC T) (va_A (zwd ZC T ad sg lg) sz) (fun z => ad = z) ro so lg) 0 0 (va_A (zwd ZC T ad sg lg) sz) :=
  metZ [.int v0] sz (by decide) rfl (Nat.le_of_ble_eq_true rfl) (fun p e s m below meth c ls C hw hl => tJ6_bitCount_0f7a4_0 C v0 sg _ _ _ hw hl h)
-- PeckYard$Leads.reason()J
def rmX6_reason : Room := { frames := 3, cells := 0, slots := 0, locals := 70 }
theorem kX6_reason_f18 : Cond.fieldLink RX6 18 "PeckYard$Leads" "muster" "LPeckYard$Muster;" ∈ wsX6_reason := by decide +kernel
theorem kX6_reason_iX6 : ∀ w ∈ u_ws RX6 TX6 3, w ∈ wsX6_reason := by decide +kernel
theorem kX6_reason_f27 : Cond.fieldLink RX6 27 "PeckYard$Muster" "size" "I" ∈ wsX6_reason := by decide +kernel
theorem kX6_reason_iX8 : ∀ w ∈ u_ws RX8 TX8 10, w ∈ wsX6_reason := by decide +kernel
theorem kX6_reason_c50 : Cond.constantLong RX6 50 (-2000000005) ∈ wsX6_reason := by decide +kernel
theorem kX6_reason_f9 : Cond.fieldLink RX6 9 "PeckYard$Leads" "leads" "[I" ∈ wsX6_reason := by decide +kernel
theorem kX6_reason_ini_X11 : Cond.initialized "PeckYard" ∈ wsX6_reason := by decide +kernel
theorem kX6_reason_s46 : Cond.static yX11_isIn ∈ wsX6_reason := by decide +kernel
theorem kX6_reason_f40 : Cond.fieldLink RX6 40 "PeckYard$Muster" "hens" "[I" ∈ wsX6_reason := by decide +kernel
theorem kX6_reason_f31 : Cond.fieldLink RX6 31 "PeckYard$Muster" "pairs" "[I" ∈ wsX6_reason := by decide +kernel
def fX6_reason_62 (r62 : (Int32 × Sg) → Option (Int64 × Sg)) (v1 : Int32) (sg : Sg) : Option (Int64 × Sg) :=
  (if (sg 3 2) ≤ v1 then some ((-2000000005 : Int64), sg) else gin v1 12 (bnd2 (fX11_isIn (sg 45 v1.toNatClampNeg) v1 sg) (fun y3 sg4 => (if y3 = 0 then lt (v1 + (1 : Int32)) (fun x8 => r62 (x8, sg4)) else gin v1 12 (some ((sg4 17 v1.toNatClampNeg).toInt64, sg4))))))
set_option maxHeartbeats 4000000 in
set_option maxRecDepth 100000 in
theorem tX6_reason_62 (C : Cx p s m args meth c cX6_reason 2 RX6 wsX6_reason (some .long) D vwCl (tysC T) A true nwL) {ro : Int64} {so : Sg} {r62 : (Int32 × Sg) → Option (Int64 × Sg)} (hr62 : ∀ (v1 : Int32) (sg : Sg), r62 (v1, sg) = some (ro, so) → ∀ (H : Heap) (locs : List Loc) (ls : Array Slot), WS ZC D vwCl T ad sg lg A s.heap H locs → lv_has ls 2 [(0, .ref (ad 9)), (1, .int v1)] → W p l e rmX6_reason s m args below meth c H locs 0 0 (MQ below (QL ZC D vwCl T (tysC T) A (fun z => ad = z) ro so lg) args s 0 0 A) (F0 m 62 ls [])) : ∀ (v1 : Int32) (sg : Sg), ∀ (H : Heap) (locs : List Loc) (ls : Array Slot), WS ZC D vwCl T ad sg lg A s.heap H locs → lv_has ls 2 [(0, .ref (ad 9)), (1, .int v1)] → fX6_reason_62 r62 v1 sg = some (ro, so) → W p l e rmX6_reason s m args below meth c H locs 0 0 (MQ below (QL ZC D vwCl T (tysC T) A (fun z => ad = z) ro so lg) args s 0 0 A) (F0 m 62 ls []) := by
  obtain ⟨⟨hx, hb, hml, hown, hts⟩, hr, hlk, hK, hA, hsp⟩ := id C
  intro v1 sg H locs ls hw hl h
  unfold fX6_reason_62 at h
  refine lv_iload_n hx hb dX6_reason_62 rfl (lv_at hl 1 rfl) ?_
  refine lv_aload_n hx hb dX6_reason_63 rfl (lv_at hl 0 rfl) ?_
  refine r_getR (ci := 6) (C := RX6) (U := TX6) (N := 3) hx hb hts kX6_reason_iX6 hown hK hw 9 (by decide) rfl rfl 0 (by decide) 3 rfl (hts _ kX6_reason_f18) (fun _ h9 => h9) dX6_reason_64 ?_
  refine r_getI (ci := 8) (C := RX8) (U := TX8) (N := 10) hx hb hts kX6_reason_iX8 hown hK hw 3 (by decide) rfl rfl 2 (by decide) rfl (hts _ kX6_reason_f27) (fun _ h9 => h9) dX6_reason_67 ?_
  refine lv_icmp_ge (tgt := 103) hx hb dX6_reason_70 (by decide) (fun c1 => ?_) (fun c1 => ?_)
  · replace h := ite_t h c1
    refine lv_ldc2 hx hb hown (hts _ kX6_reason_c50) dX6_reason_103 ?_
    cases h
    exact r_lret C hw rfl (by decide) (by decide) dX6_reason_106
  · replace h := ite_f h c1
    refine lv_aload_n hx hb dX6_reason_73 rfl (lv_at hl 0 rfl) ?_
    refine r_getR (ci := 6) (C := RX6) (U := TX6) (N := 3) hx hb hts kX6_reason_iX6 hown hK hw 9 (by decide) rfl rfl 1 (by decide) 45 rfl (hts _ kX6_reason_f9) (fun _ h9 => h9) dX6_reason_74 ?_
    refine lv_iload_n hx hb dX6_reason_77 rfl (lv_at hl 1 rfl) ?_
    have hi2 := (gin_some h).1
    replace h := (gin_some h).2
    refine r_iald hx hb hK hw 45 0 12 (by decide) rfl rfl rfl hi2 dX6_reason_78 ?_
    refine lv_iload_n hx hb dX6_reason_79 rfl (lv_at hl 1 rfl) ?_
    obtain ⟨y3, sg4, hq5, h2⟩ := bnd2_some h
    replace h := h2
    clear h2
    obtain ⟨-, -, hmt6⟩ := hsp rfl
    refine r_cNi (As := [.int (sg 45 v1.toNatClampNeg), .int v1]) (rest := []) C hw (mX11_isIn l D T ad lg H.size (sg 45 v1.toNatClampNeg) v1 sg hq5) ⟨va_cnB (host := "PeckYard") 2 hts gX6_reason_X11_isIn_n46 rfl rfl rfl (hmt6 _ nw_X6_46) (hts _ kX6_reason_ini_X11) (by decide +kernel) ⟨Nat.le_of_ble_eq_true rfl, Nat.le_of_ble_eq_true rfl⟩, (hts _ kX6_reason_s46), trivial⟩ rfl hl.1 rfl (Nat.le_of_ble_eq_true rfl) dX6_reason_80 ⟨Nat.le_of_ble_eq_true rfl, Nat.le_of_ble_eq_true rfl⟩ (fun ad' H locs hp hw => ?_)
    subst hp
    refine W.widen (k := 0) (n := 0) (by decide) (by decide) ?_
    refine lv_if_eq (tgt := 97) hx hb dX6_reason_83 (by decide) (fun c7 => ?_) (fun c7 => ?_)
    · replace h := ite_t h c7
      obtain ⟨x8, ex8⟩ : ∃ z : Int32, z = (v1 + (1 : Int32)) := ⟨_, rfl⟩
      replace h := lt_get h x8 ex8
      refine lv_iinc (v := x8) (lv' := [(1, .int x8), (0, .ref (ad 9))]) hx hb dX6_reason_97 hl (k := 1) rfl (by rw [ex8]; rfl) (by decide) rfl (fun ls hl => ?_)
      refine lv_goto (tgt := 62) hx hb dX6_reason_100 (by decide) ?_
      exact hr62 x8 sg4 h _ _ _ hw (lv_sub hl [1, 0] rfl)
    · replace h := ite_f h c7
      refine lv_aload_n hx hb dX6_reason_86 rfl (lv_at hl 0 rfl) ?_
      refine r_getR (ci := 6) (C := RX6) (U := TX6) (N := 3) hx hb hts kX6_reason_iX6 hown hK hw 9 (by decide) rfl rfl 0 (by decide) 3 rfl (hts _ kX6_reason_f18) (fun _ h9 => h9) dX6_reason_87 ?_
      refine r_getR (ci := 8) (C := RX8) (U := TX8) (N := 10) hx hb hts kX6_reason_iX8 hown hK hw 3 (by decide) rfl rfl 3 (by decide) 17 rfl (hts _ kX6_reason_f40) (fun _ h9 => h9) dX6_reason_90 ?_
      refine lv_iload_n hx hb dX6_reason_93 rfl (lv_at hl 1 rfl) ?_
      have hi9 := (gin_some h).1
      replace h := (gin_some h).2
      refine r_iald hx hb hK hw 17 0 12 (by decide) rfl rfl rfl hi9 dX6_reason_94 ?_
      refine lv_i2l (v := (sg4 17 v1.toNatClampNeg).toInt64) hx hb dX6_reason_95 rfl ?_
      cases h
      exact r_lret C hw rfl (by decide) (by decide) dX6_reason_96
def LX6_reason_62  : (Int32 × Sg) → Option (Int64 × Sg) := loop (fun rec z => fX6_reason_62 rec z.1 z.2)
theorem TX6_reason_62 (C : Cx p s m args meth c cX6_reason 2 RX6 wsX6_reason (some .long) D vwCl (tysC T) A true nwL) {ro : Int64} {so : Sg}   : ∀ (v1 : Int32) (sg : Sg), LX6_reason_62 (v1, sg) = some (ro, so) → ∀ (H : Heap) (locs : List Loc) (ls : Array Slot), WS ZC D vwCl T ad sg lg A s.heap H locs → lv_has ls 2 [(0, .ref (ad 9)), (1, .int v1)] → W p l e rmX6_reason s m args below meth c H locs 0 0 (MQ below (QL ZC D vwCl T (tysC T) A (fun z => ad = z) ro so lg) args s 0 0 A) (F0 m 62 ls []) := by
  have key : ∀ z : (Int32 × Sg), LX6_reason_62  z = some (ro, so) → ∀ (H : Heap) (locs : List Loc) (ls : Array Slot), WS ZC D vwCl T ad z.2 lg A s.heap H locs → lv_has ls 2 [(0, .ref (ad 9)), (1, .int z.1)] → W p l e rmX6_reason s m args below meth c H locs 0 0 (MQ below (QL ZC D vwCl T (tysC T) A (fun z => ad = z) ro so lg) args s 0 0 A) (F0 m 62 ls []) := by
    intro z h
    unfold LX6_reason_62 at h
    exact loop_ind (fun rec z => fX6_reason_62 rec z.1 z.2) (y := (ro, so)) (P := fun z => ∀ (H : Heap) (locs : List Loc) (ls : Array Slot), WS ZC D vwCl T ad z.2 lg A s.heap H locs → lv_has ls 2 [(0, .ref (ad 9)), (1, .int z.1)] → W p l e rmX6_reason s m args below meth c H locs 0 0 (MQ below (QL ZC D vwCl T (tysC T) A (fun z => ad = z) ro so lg) args s 0 0 A) (F0 m 62 ls [])) (fun rec hrec z h H locs ls hw hl => tX6_reason_62 C  (fun v1 sg => hrec (v1, sg)) z.1 z.2 H locs ls hw hl h) z h
  exact fun v1 sg => key (v1, sg)
def fX6_reason_9 (r9 : (Int32 × Sg) → Option (Int64 × Sg)) (v1 : Int32) (sg : Sg) : Option (Int64 × Sg) :=
  (if (sg 3 2) ≤ v1 then bnd1 (fX6_followAsking sg) (fun sg2 => LX6_reason_62 ((0 : Int32), sg2)) else gin v1 12 (bnd2 (fJ6_bitCount_0f7a4 (sg 22 v1.toNatClampNeg) sg) (fun y5 sg6 => (if y5 ≤ (1 : Int32) then lt (v1 + (1 : Int32)) (fun x9 => r9 (x9, sg6)) else gin v1 12 (some (((100 : Int32) + (sg6 17 v1.toNatClampNeg)).toInt64, sg6))))))
set_option maxHeartbeats 4000000 in
set_option maxRecDepth 100000 in
theorem tX6_reason_9 (C : Cx p s m args meth c cX6_reason 2 RX6 wsX6_reason (some .long) D vwCl (tysC T) A true nwL) {ro : Int64} {so : Sg} {r9 : (Int32 × Sg) → Option (Int64 × Sg)} (hr9 : ∀ (v1 : Int32) (sg : Sg), r9 (v1, sg) = some (ro, so) → ∀ (H : Heap) (locs : List Loc) (ls : Array Slot), WS ZC D vwCl T ad sg lg A s.heap H locs → lv_has ls 2 [(0, .ref (ad 9)), (1, .int v1)] → W p l e rmX6_reason s m args below meth c H locs 0 0 (MQ below (QL ZC D vwCl T (tysC T) A (fun z => ad = z) ro so lg) args s 0 0 A) (F0 m 9 ls [])) : ∀ (v1 : Int32) (sg : Sg), ∀ (H : Heap) (locs : List Loc) (ls : Array Slot), WS ZC D vwCl T ad sg lg A s.heap H locs → lv_has ls 2 [(0, .ref (ad 9)), (1, .int v1)] → fX6_reason_9 r9 v1 sg = some (ro, so) → W p l e rmX6_reason s m args below meth c H locs 0 0 (MQ below (QL ZC D vwCl T (tysC T) A (fun z => ad = z) ro so lg) args s 0 0 A) (F0 m 9 ls []) := by
  obtain ⟨⟨hx, hb, hml, hown, hts⟩, hr, hlk, hK, hA, hsp⟩ := id C
  intro v1 sg H locs ls hw hl h
  unfold fX6_reason_9 at h
  refine lv_iload_n hx hb dX6_reason_9 rfl (lv_at hl 1 rfl) ?_
  refine lv_aload_n hx hb dX6_reason_10 rfl (lv_at hl 0 rfl) ?_
  refine r_getR (ci := 6) (C := RX6) (U := TX6) (N := 3) hx hb hts kX6_reason_iX6 hown hK hw 9 (by decide) rfl rfl 0 (by decide) 3 rfl (hts _ kX6_reason_f18) (fun _ h9 => h9) dX6_reason_11 ?_
  refine r_getI (ci := 8) (C := RX8) (U := TX8) (N := 10) hx hb hts kX6_reason_iX8 hown hK hw 3 (by decide) rfl rfl 2 (by decide) rfl (hts _ kX6_reason_f27) (fun _ h9 => h9) dX6_reason_14 ?_
  refine lv_icmp_ge (tgt := 56) hx hb dX6_reason_17 (by decide) (fun c1 => ?_) (fun c1 => ?_)
  · replace h := ite_t h c1
    refine lv_aload_n hx hb dX6_reason_56 rfl (lv_at hl 0 rfl) ?_
    obtain ⟨sg2, hq3, h2⟩ := bnd1_some h
    replace h := h2
    clear h2
    refine r_cVv (As := []) (rest := []) C hw 9 (by decide) (ci := 6) rfl rfl (mX6_followAsking l D T ad lg H.size sg hq3) (cwV 0 hts gX6_reason_X6_followAsking rfl rfl rfl (by decide +kernel) ⟨Nat.le_of_ble_eq_true rfl, Nat.le_of_ble_eq_true rfl⟩) rfl hl.1 rfl (Nat.le_of_ble_eq_true rfl) dX6_reason_57 ⟨Nat.le_of_ble_eq_true rfl, Nat.le_of_ble_eq_true rfl⟩ (fun ad' H locs hp hw => ?_)
    subst hp
    refine W.widen (k := 0) (n := 0) (by decide) (by decide) ?_
    refine lv_iconst (v := (0 : Int32)) hx hb dX6_reason_60 (by decide) ?_
    refine lv_istore_n (lv' := [(1, .int (0 : Int32)), (0, .ref (ad 9))]) hx hb dX6_reason_61 rfl hl (by decide) rfl (fun ls hl => ?_)
    exact TX6_reason_62 C (0 : Int32) sg2 h _ _ _ hw (lv_sub hl [1, 0] rfl)
  · replace h := ite_f h c1
    refine lv_aload_n hx hb dX6_reason_20 rfl (lv_at hl 0 rfl) ?_
    refine r_getR (ci := 6) (C := RX6) (U := TX6) (N := 3) hx hb hts kX6_reason_iX6 hown hK hw 9 (by decide) rfl rfl 0 (by decide) 3 rfl (hts _ kX6_reason_f18) (fun _ h9 => h9) dX6_reason_21 ?_
    refine r_getR (ci := 8) (C := RX8) (U := TX8) (N := 10) hx hb hts kX6_reason_iX8 hown hK hw 3 (by decide) rfl rfl 8 (by decide) 22 rfl (hts _ kX6_reason_f31) (fun _ h9 => h9) dX6_reason_24 ?_
    refine lv_iload_n hx hb dX6_reason_27 rfl (lv_at hl 1 rfl) ?_
    have hi4 := (gin_some h).1
    replace h := (gin_some h).2
    refine r_iald hx hb hK hw 22 0 12 (by decide) rfl rfl rfl hi4 dX6_reason_28 ?_
    obtain ⟨y5, sg6, hq7, h2⟩ := bnd2_some h
    replace h := h2
    clear h2
    refine r_cSi (As := [.int (sg 22 v1.toNatClampNeg)]) (rest := []) C hw (mJ6_bitCount_0f7a4 l D T ad lg H.size (sg 22 v1.toNatClampNeg) sg hq7) (va_cwS 1 hts gX6_reason_J6_bitCount_0f7a4 rfl rfl rfl (by decide +kernel) ⟨Nat.le_of_ble_eq_true rfl, Nat.le_of_ble_eq_true rfl⟩) rfl hl.1 rfl (Nat.le_of_ble_eq_true rfl) dX6_reason_29 ⟨Nat.le_of_ble_eq_true rfl, Nat.le_of_ble_eq_true rfl⟩ (fun ad' H locs hp hw => ?_)
    subst hp
    refine W.widen (k := 0) (n := 0) (by decide) (by decide) ?_
    refine lv_iconst (v := (1 : Int32)) hx hb dX6_reason_32 (by decide) ?_
    refine lv_icmp_le (tgt := 50) hx hb dX6_reason_33 (by decide) (fun c8 => ?_) (fun c8 => ?_)
    · replace h := ite_t h c8
      obtain ⟨x9, ex9⟩ : ∃ z : Int32, z = (v1 + (1 : Int32)) := ⟨_, rfl⟩
      replace h := lt_get h x9 ex9
      refine lv_iinc (v := x9) (lv' := [(1, .int x9), (0, .ref (ad 9))]) hx hb dX6_reason_50 hl (k := 1) rfl (by rw [ex9]; rfl) (by decide) rfl (fun ls hl => ?_)
      refine lv_goto (tgt := 9) hx hb dX6_reason_53 (by decide) ?_
      exact hr9 x9 sg6 h _ _ _ hw (lv_sub hl [1, 0] rfl)
    · replace h := ite_f h c8
      refine lv_bipush (v := (100 : Int32)) hx hb dX6_reason_36 (by decide) ?_
      refine lv_aload_n hx hb dX6_reason_38 rfl (lv_at hl 0 rfl) ?_
      refine r_getR (ci := 6) (C := RX6) (U := TX6) (N := 3) hx hb hts kX6_reason_iX6 hown hK hw 9 (by decide) rfl rfl 0 (by decide) 3 rfl (hts _ kX6_reason_f18) (fun _ h9 => h9) dX6_reason_39 ?_
      refine r_getR (ci := 8) (C := RX8) (U := TX8) (N := 10) hx hb hts kX6_reason_iX8 hown hK hw 3 (by decide) rfl rfl 3 (by decide) 17 rfl (hts _ kX6_reason_f40) (fun _ h9 => h9) dX6_reason_42 ?_
      refine lv_iload_n hx hb dX6_reason_45 rfl (lv_at hl 1 rfl) ?_
      have hi10 := (gin_some h).1
      replace h := (gin_some h).2
      refine r_iald hx hb hK hw 17 0 12 (by decide) rfl rfl rfl hi10 dX6_reason_46 ?_
      refine lv_iadd hx hb dX6_reason_47 ?_
      refine lv_i2l (v := ((100 : Int32) + (sg6 17 v1.toNatClampNeg)).toInt64) hx hb dX6_reason_48 rfl ?_
      cases h
      exact r_lret C hw rfl (by decide) (by decide) dX6_reason_49
def LX6_reason_9  : (Int32 × Sg) → Option (Int64 × Sg) := loop (fun rec z => fX6_reason_9 rec z.1 z.2)
theorem TX6_reason_9 (C : Cx p s m args meth c cX6_reason 2 RX6 wsX6_reason (some .long) D vwCl (tysC T) A true nwL) {ro : Int64} {so : Sg}   : ∀ (v1 : Int32) (sg : Sg), LX6_reason_9 (v1, sg) = some (ro, so) → ∀ (H : Heap) (locs : List Loc) (ls : Array Slot), WS ZC D vwCl T ad sg lg A s.heap H locs → lv_has ls 2 [(0, .ref (ad 9)), (1, .int v1)] → W p l e rmX6_reason s m args below meth c H locs 0 0 (MQ below (QL ZC D vwCl T (tysC T) A (fun z => ad = z) ro so lg) args s 0 0 A) (F0 m 9 ls []) := by
  have key : ∀ z : (Int32 × Sg), LX6_reason_9  z = some (ro, so) → ∀ (H : Heap) (locs : List Loc) (ls : Array Slot), WS ZC D vwCl T ad z.2 lg A s.heap H locs → lv_has ls 2 [(0, .ref (ad 9)), (1, .int z.1)] → W p l e rmX6_reason s m args below meth c H locs 0 0 (MQ below (QL ZC D vwCl T (tysC T) A (fun z => ad = z) ro so lg) args s 0 0 A) (F0 m 9 ls []) := by
    intro z h
    unfold LX6_reason_9 at h
    exact loop_ind (fun rec z => fX6_reason_9 rec z.1 z.2) (y := (ro, so)) (P := fun z => ∀ (H : Heap) (locs : List Loc) (ls : Array Slot), WS ZC D vwCl T ad z.2 lg A s.heap H locs → lv_has ls 2 [(0, .ref (ad 9)), (1, .int z.1)] → W p l e rmX6_reason s m args below meth c H locs 0 0 (MQ below (QL ZC D vwCl T (tysC T) A (fun z => ad = z) ro so lg) args s 0 0 A) (F0 m 9 ls [])) (fun rec hrec z h H locs ls hw hl => tX6_reason_9 C  (fun v1 sg => hrec (v1, sg)) z.1 z.2 H locs ls hw hl h) z h
  exact fun v1 sg => key (v1, sg)
def fX6_reason  (sg : Sg) : Option (Int64 × Sg) :=
  bnd1 (fX8_gather sg) (fun sg1 => LX6_reason_9 ((0 : Int32), sg1))
set_option maxHeartbeats 4000000 in
set_option maxRecDepth 100000 in
theorem tX6_reason_0 (C : Cx p s m args meth c cX6_reason 2 RX6 wsX6_reason (some .long) D vwCl (tysC T) A true nwL) {ro : Int64} {so : Sg}   : ∀ (sg : Sg), ∀ (H : Heap) (locs : List Loc) (ls : Array Slot), WS ZC D vwCl T ad sg lg A s.heap H locs → lv_has ls 2 [(0, .ref (ad 9))] → fX6_reason sg = some (ro, so) → W p l e rmX6_reason s m args below meth c H locs 0 0 (MQ below (QL ZC D vwCl T (tysC T) A (fun z => ad = z) ro so lg) args s 0 0 A) (F0 m 0 ls []) := by
  obtain ⟨⟨hx, hb, hml, hown, hts⟩, hr, hlk, hK, hA, hsp⟩ := id C
  intro sg H locs ls hw hl h
  unfold fX6_reason at h
  refine lv_aload_n hx hb dX6_reason_0 rfl (lv_at hl 0 rfl) ?_
  refine r_getR (ci := 6) (C := RX6) (U := TX6) (N := 3) hx hb hts kX6_reason_iX6 hown hK hw 9 (by decide) rfl rfl 0 (by decide) 3 rfl (hts _ kX6_reason_f18) (fun _ h9 => h9) dX6_reason_1 ?_
  obtain ⟨sg1, hq2, h2⟩ := bnd1_some h
  replace h := h2
  clear h2
  refine r_cVv (As := []) (rest := []) C hw 3 (by decide) (ci := 8) rfl rfl (mX8_gather l D T ad lg H.size sg hq2) (cwV 0 hts gX6_reason_X8_gather rfl rfl rfl (by decide +kernel) ⟨Nat.le_of_ble_eq_true rfl, Nat.le_of_ble_eq_true rfl⟩) rfl hl.1 rfl (Nat.le_of_ble_eq_true rfl) dX6_reason_4 ⟨Nat.le_of_ble_eq_true rfl, Nat.le_of_ble_eq_true rfl⟩ (fun ad' H locs hp hw => ?_)
  subst hp
  refine W.widen (k := 0) (n := 0) (by decide) (by decide) ?_
  refine lv_iconst (v := (0 : Int32)) hx hb dX6_reason_7 (by decide) ?_
  refine lv_istore_n (lv' := [(1, .int (0 : Int32)), (0, .ref (ad 9))]) hx hb dX6_reason_8 rfl hl (by decide) rfl (fun ls hl => ?_)
  exact TX6_reason_9 C (0 : Int32) sg1 h _ _ _ hw (lv_sub hl [1, 0] rfl)
theorem mX6_reason (l : Launch) (D : va_G) (T : Nat → ClassId) (ad : Nat → Nat) (lg : Lg) (sz : Nat)   (sg : Sg) {ro : Int64} {so : Sg} (h : fX6_reason sg = some (ro, so)) : Met l yX6_reason wsX6_reason rmX6_reason (PreZ ZC D vwCl T (tysC T) ad sg lg true nwL [.ref (ad 9)] sz) (QL ZC D vwCl T (tysC T) (va_A (zwd ZC T ad sg lg) sz) (fun z => ad = z) ro so lg) 0 0 (va_A (zwd ZC T ad sg lg) sz) :=
  metZ [.ref (ad 9)] sz (by decide) rfl (Nat.le_of_ble_eq_true rfl) (fun p e s m below meth c ls C hw hl => tX6_reason_0 C sg _ _ _ hw hl h)
-- PeckYard.why()J
def rmX11_why : Room := { frames := 4, cells := 0, slots := 0, locals := 91 }
theorem kX11_why_f72 : Cond.fieldLink RX11 72 "PeckYard" "leads" "LPeckYard$Leads;" ∈ wsX11_why := by decide +kernel
theorem kX11_why_iX11 : ∀ w ∈ u_ws RX11 TX11 9, w ∈ wsX11_why := by decide +kernel
def fX11_why  (sg : Sg) : Option (Int64 × Sg) :=
  bnd2 (fX6_reason sg) (fun y1 sg2 => some (y1, sg2))
set_option maxHeartbeats 4000000 in
set_option maxRecDepth 100000 in
theorem tX11_why_0 (C : Cx p s m args meth c cX11_why 1 RX11 wsX11_why (some .long) D vwCl (tysC T) A true nwL) {ro : Int64} {so : Sg}   : ∀ (sg : Sg), ∀ (H : Heap) (locs : List Loc) (ls : Array Slot), WS ZC D vwCl T ad sg lg A s.heap H locs → lv_has ls 1 [(0, .ref (ad 0))] → fX11_why sg = some (ro, so) → W p l e rmX11_why s m args below meth c H locs 0 0 (MQ below (QL ZC D vwCl T (tysC T) A (fun z => ad = z) ro so lg) args s 0 0 A) (F0 m 0 ls []) := by
  obtain ⟨⟨hx, hb, hml, hown, hts⟩, hr, hlk, hK, hA, hsp⟩ := id C
  intro sg H locs ls hw hl h
  unfold fX11_why at h
  refine lv_aload_n hx hb dX11_why_0 rfl (lv_at hl 0 rfl) ?_
  refine r_getR (ci := 11) (C := RX11) (U := TX11) (N := 9) hx hb hts kX11_why_iX11 hown hK hw 0 (by decide) rfl rfl 8 (by decide) 9 rfl (hts _ kX11_why_f72) (fun _ h9 => h9) dX11_why_1 ?_
  obtain ⟨y1, sg2, hq3, h2⟩ := bnd2_some h
  replace h := h2
  clear h2
  refine r_cVl (As := []) (rest := []) C hw 9 (by decide) (ci := 6) rfl rfl (mX6_reason l D T ad lg H.size sg hq3) (cwV 0 hts gX11_why_X6_reason rfl rfl rfl (by decide +kernel) ⟨Nat.le_of_ble_eq_true rfl, Nat.le_of_ble_eq_true rfl⟩) rfl hl.1 rfl (Nat.le_of_ble_eq_true rfl) dX11_why_4 ⟨Nat.le_of_ble_eq_true rfl, Nat.le_of_ble_eq_true rfl⟩ (fun ad' H locs hp hw => ?_)
  subst hp
  refine W.widen (k := 0) (n := 0) (by decide) (by decide) ?_
  cases h
  exact r_lret C hw rfl (by decide) (by decide) dX11_why_7
theorem mX11_why (l : Launch) (D : va_G) (T : Nat → ClassId) (ad : Nat → Nat) (lg : Lg) (sz : Nat)   (sg : Sg) {ro : Int64} {so : Sg} (h : fX11_why sg = some (ro, so)) : Met l yX11_why wsX11_why rmX11_why (PreZ ZC D vwCl T (tysC T) ad sg lg true nwL [.ref (ad 0)] sz) (QL ZC D vwCl T (tysC T) (va_A (zwd ZC T ad sg lg) sz) (fun z => ad = z) ro so lg) 0 0 (va_A (zwd ZC T ad sg lg) sz) :=
  metZ [.ref (ad 0)] sz (by decide) rfl (Nat.le_of_ble_eq_true rfl) (fun p e s m below meth c ls C hw hl => tX11_why_0 C sg _ _ _ hw hl h)
-- PeckYard.begin()J
def rmX11_begin : Room := { frames := 0, cells := 0, slots := 0, locals := 0 }
theorem kX11_begin_f44 : Cond.fieldLink RX11 44 "PeckYard" "hand" "LPeckYard$Hand;" ∈ wsX11_begin := by decide +kernel
theorem kX11_begin_iX11 : ∀ w ∈ u_ws RX11 TX11 9, w ∈ wsX11_begin := by decide +kernel
theorem kX11_begin_f166 : Cond.fieldLink RX11 166 "PeckYard$Hand" "size" "I" ∈ wsX11_begin := by decide +kernel
theorem kX11_begin_iX5 : ∀ w ∈ u_ws RX5 TX5 2, w ∈ wsX11_begin := by decide +kernel
def fX11_begin  (sg : Sg) : Option (Int64 × Sg) :=
  lt (sg 5 0) (fun x1 => lt (up2 sg 5 0 (0 : Int32)) (fun sg2 => some (x1.toInt64, sg2)))
set_option maxHeartbeats 4000000 in
set_option maxRecDepth 100000 in
theorem tX11_begin_0 (C : Cx p s m args meth c cX11_begin 2 RX11 wsX11_begin (some .long) D vwCl (tysC T) A true nwL) {ro : Int64} {so : Sg}   : ∀ (sg : Sg), ∀ (H : Heap) (locs : List Loc) (ls : Array Slot), WS ZC D vwCl T ad sg lg A s.heap H locs → lv_has ls 2 [(0, .ref (ad 0))] → fX11_begin sg = some (ro, so) → W p l e rmX11_begin s m args below meth c H locs 0 0 (MQ below (QL ZC D vwCl T (tysC T) A (fun z => ad = z) ro so lg) args s 0 0 A) (F0 m 0 ls []) := by
  obtain ⟨⟨hx, hb, hml, hown, hts⟩, hr, hlk, hK, hA, hsp⟩ := id C
  intro sg H locs ls hw hl h
  unfold fX11_begin at h
  refine lv_aload_n hx hb dX11_begin_0 rfl (lv_at hl 0 rfl) ?_
  refine r_getR (ci := 11) (C := RX11) (U := TX11) (N := 9) hx hb hts kX11_begin_iX11 hown hK hw 0 (by decide) rfl rfl 4 (by decide) 5 rfl (hts _ kX11_begin_f44) (fun _ h9 => h9) dX11_begin_1 ?_
  refine r_getI (ci := 5) (C := RX5) (U := TX5) (N := 2) hx hb hts kX11_begin_iX5 hown hK hw 5 (by decide) rfl rfl 0 (by decide) rfl (hts _ kX11_begin_f166) (fun _ h9 => h9) dX11_begin_4 ?_
  refine lv_topi (fun x1 ex1 => ?_)
  replace h := lt_get h x1 ex1
  refine lv_istore_n (lv' := [(1, .int x1), (0, .ref (ad 0))]) hx hb dX11_begin_7 rfl hl (by decide) rfl (fun ls hl => ?_)
  refine lv_aload_n hx hb dX11_begin_8 rfl (lv_at hl 1 rfl) ?_
  refine r_getR (ci := 11) (C := RX11) (U := TX11) (N := 9) hx hb hts kX11_begin_iX11 hown hK hw 0 (by decide) rfl rfl 4 (by decide) 5 rfl (hts _ kX11_begin_f44) (fun _ h9 => h9) dX11_begin_9 ?_
  refine lv_iconst (v := (0 : Int32)) hx hb dX11_begin_12 (by decide) ?_
  refine r_putI ZC_ok (ci := 5) (C := RX5) (U := TX5) (N := 2) (ty := .int) hx hb hts kX11_begin_iX5 tyX5 tyX5_ok nmX5 hown hK hw 5 (by decide) rfl rfl 0 (by decide) rfl (hts _ kX11_begin_f166) (fun _ h9 => h9) rfl (by decide +kernel) rfl rfl dX11_begin_13 (fun H locs sg2 esg2 hw => ?_)
  replace h := lt_get h sg2 esg2
  refine lv_iload_n hx hb dX11_begin_16 rfl (lv_at hl 0 rfl) ?_
  refine lv_i2l (v := x1.toInt64) hx hb dX11_begin_17 rfl ?_
  cases h
  exact r_lret C hw rfl (by decide) (by decide) dX11_begin_18
theorem mX11_begin (l : Launch) (D : va_G) (T : Nat → ClassId) (ad : Nat → Nat) (lg : Lg) (sz : Nat)   (sg : Sg) {ro : Int64} {so : Sg} (h : fX11_begin sg = some (ro, so)) : Met l yX11_begin wsX11_begin rmX11_begin (PreZ ZC D vwCl T (tysC T) ad sg lg true nwL [.ref (ad 0)] sz) (QL ZC D vwCl T (tysC T) (va_A (zwd ZC T ad sg lg) sz) (fun z => ad = z) ro so lg) 0 0 (va_A (zwd ZC T ad sg lg) sz) :=
  metZ [.ref (ad 0)] sz (by decide) rfl (Nat.le_of_ble_eq_true rfl) (fun p e s m below meth c ls C hw hl => tX11_begin_0 C sg _ _ _ hw hl h)
-- PeckYard$Hand.holds(I)Z
def rmX5_holds : Room := { frames := 0, cells := 0, slots := 0, locals := 0 }
theorem kX5_holds_f15 : Cond.fieldLink RX5 15 "PeckYard$Hand" "size" "I" ∈ wsX5_holds := by decide +kernel
theorem kX5_holds_iX5 : ∀ w ∈ u_ws RX5 TX5 2, w ∈ wsX5_holds := by decide +kernel
theorem kX5_holds_f9 : Cond.fieldLink RX5 9 "PeckYard$Hand" "hens" "[I" ∈ wsX5_holds := by decide +kernel
def fX5_holds_2 (r2 : (Int32 × Int32 × Sg) → Option (Int32 × Sg)) (v1 : Int32) (v2 : Int32) (sg : Sg) : Option (Int32 × Sg) :=
  (if (sg 5 0) ≤ v2 then some ((0 : Int32), sg) else gin v2 12 ((if (sg 31 v2.toNatClampNeg) = v1 then some ((1 : Int32), sg) else lt (v2 + (1 : Int32)) (fun x4 => r2 (v1, x4, sg)))))
set_option maxHeartbeats 4000000 in
set_option maxRecDepth 100000 in
theorem tX5_holds_2 (C : Cx p s m args meth c cX5_holds 3 RX5 wsX5_holds (some .boolean) D vwCl (tysC T) A true nwL) {ro : Int32} {so : Sg} {r2 : (Int32 × Int32 × Sg) → Option (Int32 × Sg)} (hr2 : ∀ (v1 : Int32) (v2 : Int32) (sg : Sg), r2 (v1, v2, sg) = some (ro, so) → ∀ (H : Heap) (locs : List Loc) (ls : Array Slot), WS ZC D vwCl T ad sg lg A s.heap H locs → lv_has ls 3 [(0, .ref (ad 5)), (1, .int v1), (2, .int v2)] → W p l e rmX5_holds s m args below meth c H locs 0 0 (MQ below (QI ZC D vwCl T (tysC T) A (fun z => ad = z) ro so lg) args s 0 0 A) (F0 m 2 ls [])) : ∀ (v1 : Int32) (v2 : Int32) (sg : Sg), ∀ (H : Heap) (locs : List Loc) (ls : Array Slot), WS ZC D vwCl T ad sg lg A s.heap H locs → lv_has ls 3 [(0, .ref (ad 5)), (1, .int v1), (2, .int v2)] → fX5_holds_2 r2 v1 v2 sg = some (ro, so) → W p l e rmX5_holds s m args below meth c H locs 0 0 (MQ below (QI ZC D vwCl T (tysC T) A (fun z => ad = z) ro so lg) args s 0 0 A) (F0 m 2 ls []) := by
  obtain ⟨⟨hx, hb, hml, hown, hts⟩, hr, hlk, hK, hA, hsp⟩ := id C
  intro v1 v2 sg H locs ls hw hl h
  unfold fX5_holds_2 at h
  refine lv_iload_n hx hb dX5_holds_2 rfl (lv_at hl 2 rfl) ?_
  refine lv_aload_n hx hb dX5_holds_3 rfl (lv_at hl 0 rfl) ?_
  refine r_getI (ci := 5) (C := RX5) (U := TX5) (N := 2) hx hb hts kX5_holds_iX5 hown hK hw 5 (by decide) rfl rfl 0 (by decide) rfl (hts _ kX5_holds_f15) (fun _ h9 => h9) dX5_holds_4 ?_
  refine lv_icmp_ge (tgt := 28) hx hb dX5_holds_7 (by decide) (fun c1 => ?_) (fun c1 => ?_)
  · replace h := ite_t h c1
    refine lv_iconst (v := (0 : Int32)) hx hb dX5_holds_28 (by decide) ?_
    cases h
    exact r_zret C hw rfl (by decide) (by decide) (by decide) dX5_holds_29
  · replace h := ite_f h c1
    refine lv_aload_n hx hb dX5_holds_10 rfl (lv_at hl 0 rfl) ?_
    refine r_getR (ci := 5) (C := RX5) (U := TX5) (N := 2) hx hb hts kX5_holds_iX5 hown hK hw 5 (by decide) rfl rfl 1 (by decide) 31 rfl (hts _ kX5_holds_f9) (fun _ h9 => h9) dX5_holds_11 ?_
    refine lv_iload_n hx hb dX5_holds_14 rfl (lv_at hl 2 rfl) ?_
    have hi2 := (gin_some h).1
    replace h := (gin_some h).2
    refine r_iald hx hb hK hw 31 0 12 (by decide) rfl rfl rfl hi2 dX5_holds_15 ?_
    refine lv_iload_n hx hb dX5_holds_16 rfl (lv_at hl 1 rfl) ?_
    refine lv_icmp_ne (tgt := 22) hx hb dX5_holds_17 (by decide) (fun c3 => ?_) (fun c3 => ?_)
    · replace h := ite_f h c3
      obtain ⟨x4, ex4⟩ : ∃ z : Int32, z = (v2 + (1 : Int32)) := ⟨_, rfl⟩
      replace h := lt_get h x4 ex4
      refine lv_iinc (v := x4) (lv' := [(2, .int x4), (0, .ref (ad 5)), (1, .int v1)]) hx hb dX5_holds_22 hl (k := 2) rfl (by rw [ex4]; rfl) (by decide) rfl (fun ls hl => ?_)
      refine lv_goto (tgt := 2) hx hb dX5_holds_25 (by decide) ?_
      exact hr2 v1 x4 sg h _ _ _ hw (lv_sub hl [1, 2, 0] rfl)
    · replace h := ite_t h c3
      refine lv_iconst (v := (1 : Int32)) hx hb dX5_holds_20 (by decide) ?_
      cases h
      exact r_zret C hw rfl (by decide) (by decide) (by decide) dX5_holds_21
def LX5_holds_2  : (Int32 × Int32 × Sg) → Option (Int32 × Sg) := loop (fun rec z => fX5_holds_2 rec z.1 z.2.1 z.2.2)
theorem TX5_holds_2 (C : Cx p s m args meth c cX5_holds 3 RX5 wsX5_holds (some .boolean) D vwCl (tysC T) A true nwL) {ro : Int32} {so : Sg}   : ∀ (v1 : Int32) (v2 : Int32) (sg : Sg), LX5_holds_2 (v1, v2, sg) = some (ro, so) → ∀ (H : Heap) (locs : List Loc) (ls : Array Slot), WS ZC D vwCl T ad sg lg A s.heap H locs → lv_has ls 3 [(0, .ref (ad 5)), (1, .int v1), (2, .int v2)] → W p l e rmX5_holds s m args below meth c H locs 0 0 (MQ below (QI ZC D vwCl T (tysC T) A (fun z => ad = z) ro so lg) args s 0 0 A) (F0 m 2 ls []) := by
  have key : ∀ z : (Int32 × Int32 × Sg), LX5_holds_2  z = some (ro, so) → ∀ (H : Heap) (locs : List Loc) (ls : Array Slot), WS ZC D vwCl T ad z.2.2 lg A s.heap H locs → lv_has ls 3 [(0, .ref (ad 5)), (1, .int z.1), (2, .int z.2.1)] → W p l e rmX5_holds s m args below meth c H locs 0 0 (MQ below (QI ZC D vwCl T (tysC T) A (fun z => ad = z) ro so lg) args s 0 0 A) (F0 m 2 ls []) := by
    intro z h
    unfold LX5_holds_2 at h
    exact loop_ind (fun rec z => fX5_holds_2 rec z.1 z.2.1 z.2.2) (y := (ro, so)) (P := fun z => ∀ (H : Heap) (locs : List Loc) (ls : Array Slot), WS ZC D vwCl T ad z.2.2 lg A s.heap H locs → lv_has ls 3 [(0, .ref (ad 5)), (1, .int z.1), (2, .int z.2.1)] → W p l e rmX5_holds s m args below meth c H locs 0 0 (MQ below (QI ZC D vwCl T (tysC T) A (fun z => ad = z) ro so lg) args s 0 0 A) (F0 m 2 ls [])) (fun rec hrec z h H locs ls hw hl => tX5_holds_2 C  (fun v1 v2 sg => hrec (v1, v2, sg)) z.1 z.2.1 z.2.2 H locs ls hw hl h) z h
  exact fun v1 v2 sg => key (v1, v2, sg)
def fX5_holds  (v1 : Int32) (sg : Sg) : Option (Int32 × Sg) :=
  LX5_holds_2 (v1, (0 : Int32), sg)
set_option maxHeartbeats 4000000 in
set_option maxRecDepth 100000 in
theorem tX5_holds_0 (C : Cx p s m args meth c cX5_holds 3 RX5 wsX5_holds (some .boolean) D vwCl (tysC T) A true nwL) {ro : Int32} {so : Sg}   : ∀ (v1 : Int32) (sg : Sg), ∀ (H : Heap) (locs : List Loc) (ls : Array Slot), WS ZC D vwCl T ad sg lg A s.heap H locs → lv_has ls 3 [(0, .ref (ad 5)), (1, .int v1)] → fX5_holds v1 sg = some (ro, so) → W p l e rmX5_holds s m args below meth c H locs 0 0 (MQ below (QI ZC D vwCl T (tysC T) A (fun z => ad = z) ro so lg) args s 0 0 A) (F0 m 0 ls []) := by
  obtain ⟨⟨hx, hb, hml, hown, hts⟩, hr, hlk, hK, hA, hsp⟩ := id C
  intro v1 sg H locs ls hw hl h
  unfold fX5_holds at h
  refine lv_iconst (v := (0 : Int32)) hx hb dX5_holds_0 (by decide) ?_
  refine lv_istore_n (lv' := [(2, .int (0 : Int32)), (0, .ref (ad 5)), (1, .int v1)]) hx hb dX5_holds_1 rfl hl (by decide) rfl (fun ls hl => ?_)
  exact TX5_holds_2 C v1 (0 : Int32) sg h _ _ _ hw (lv_sub hl [1, 2, 0] rfl)
theorem mX5_holds (l : Launch) (D : va_G) (T : Nat → ClassId) (ad : Nat → Nat) (lg : Lg) (sz : Nat)   (v1 : Int32) (sg : Sg) {ro : Int32} {so : Sg} (h : fX5_holds v1 sg = some (ro, so)) : Met l yX5_holds wsX5_holds rmX5_holds (PreZ ZC D vwCl T (tysC T) ad sg lg true nwL [.ref (ad 5), .int v1] sz) (QI ZC D vwCl T (tysC T) (va_A (zwd ZC T ad sg lg) sz) (fun z => ad = z) ro so lg) 0 0 (va_A (zwd ZC T ad sg lg) sz) :=
  metZ [.ref (ad 5), .int v1] sz (by decide) rfl (Nat.le_of_ble_eq_true rfl) (fun p e s m below meth c ls C hw hl => tX5_holds_0 C v1 sg _ _ _ hw hl h)
-- PeckYard.stand(I)J
def rmX11_stand : Room := { frames := 1, cells := 0, slots := 0, locals := 22 }
theorem kX11_stand_f10 : Cond.fieldLink RX11 10 "PeckYard" "flock" "LPeckYard$Flock;" ∈ wsX11_stand := by decide +kernel
theorem kX11_stand_iX11 : ∀ w ∈ u_ws RX11 TX11 9, w ∈ wsX11_stand := by decide +kernel
theorem kX11_stand_c88 : Cond.constantLong RX11 88 (-2000000001) ∈ wsX11_stand := by decide +kernel
theorem kX11_stand_f44 : Cond.fieldLink RX11 44 "PeckYard" "hand" "LPeckYard$Hand;" ∈ wsX11_stand := by decide +kernel
theorem kX11_stand_f166 : Cond.fieldLink RX11 166 "PeckYard$Hand" "size" "I" ∈ wsX11_stand := by decide +kernel
theorem kX11_stand_iX5 : ∀ w ∈ u_ws RX5 TX5 2, w ∈ wsX11_stand := by decide +kernel
theorem kX11_stand_c90 : Cond.constantLong RX11 90 (-2000000003) ∈ wsX11_stand := by decide +kernel
def fX11_stand  (v1 : Int32) (sg : Sg) : Option (Int64 × Sg) :=
  bnd2 (fX2_has v1 sg) (fun y1 sg2 => (if y1 = 0 then some ((-2000000001 : Int64), sg2) else bnd2 (fX5_holds v1 sg2) (fun y5 sg6 => (if y5 = 0 then (if (sg6 5 0) < (12 : Int32) then bnd1 (fX5_append v1 sg6) (fun sg10 => some ((sg10 5 0).toInt64, sg10)) else some ((-2000000003 : Int64), sg6)) else some ((-2000000001 : Int64), sg6)))))
set_option maxHeartbeats 4000000 in
set_option maxRecDepth 100000 in
theorem tX11_stand_0 (C : Cx p s m args meth c cX11_stand 2 RX11 wsX11_stand (some .long) D vwCl (tysC T) A true nwL) {ro : Int64} {so : Sg}   : ∀ (v1 : Int32) (sg : Sg), ∀ (H : Heap) (locs : List Loc) (ls : Array Slot), WS ZC D vwCl T ad sg lg A s.heap H locs → lv_has ls 2 [(0, .ref (ad 0)), (1, .int v1)] → fX11_stand v1 sg = some (ro, so) → W p l e rmX11_stand s m args below meth c H locs 0 0 (MQ below (QL ZC D vwCl T (tysC T) A (fun z => ad = z) ro so lg) args s 0 0 A) (F0 m 0 ls []) := by
  obtain ⟨⟨hx, hb, hml, hown, hts⟩, hr, hlk, hK, hA, hsp⟩ := id C
  intro v1 sg H locs ls hw hl h
  unfold fX11_stand at h
  refine lv_aload_n hx hb dX11_stand_0 rfl (lv_at hl 0 rfl) ?_
  refine r_getR (ci := 11) (C := RX11) (U := TX11) (N := 9) hx hb hts kX11_stand_iX11 hown hK hw 0 (by decide) rfl rfl 0 (by decide) 1 rfl (hts _ kX11_stand_f10) (fun _ h9 => h9) dX11_stand_1 ?_
  refine lv_iload_n hx hb dX11_stand_4 rfl (lv_at hl 1 rfl) ?_
  obtain ⟨y1, sg2, hq3, h2⟩ := bnd2_some h
  replace h := h2
  clear h2
  refine r_cVi (As := [.int v1]) (rest := []) C hw 1 (by decide) (ci := 2) rfl rfl (mX2_has l D T ad lg H.size v1 sg hq3) (cwV 1 hts gX11_stand_X2_has rfl rfl rfl (by decide +kernel) ⟨Nat.le_of_ble_eq_true rfl, Nat.le_of_ble_eq_true rfl⟩) rfl hl.1 rfl (Nat.le_of_ble_eq_true rfl) dX11_stand_5 ⟨Nat.le_of_ble_eq_true rfl, Nat.le_of_ble_eq_true rfl⟩ (fun ad' H locs hp hw => ?_)
  subst hp
  refine W.widen (k := 0) (n := 0) (by decide) (by decide) ?_
  refine lv_if_eq (tgt := 22) hx hb dX11_stand_8 (by decide) (fun c4 => ?_) (fun c4 => ?_)
  · replace h := ite_t h c4
    refine lv_ldc2 hx hb hown (hts _ kX11_stand_c88) dX11_stand_22 ?_
    cases h
    exact r_lret C hw rfl (by decide) (by decide) dX11_stand_25
  · replace h := ite_f h c4
    refine lv_aload_n hx hb dX11_stand_11 rfl (lv_at hl 0 rfl) ?_
    refine r_getR (ci := 11) (C := RX11) (U := TX11) (N := 9) hx hb hts kX11_stand_iX11 hown hK hw 0 (by decide) rfl rfl 4 (by decide) 5 rfl (hts _ kX11_stand_f44) (fun _ h9 => h9) dX11_stand_12 ?_
    refine lv_iload_n hx hb dX11_stand_15 rfl (lv_at hl 1 rfl) ?_
    obtain ⟨y5, sg6, hq7, h2⟩ := bnd2_some h
    replace h := h2
    clear h2
    refine r_cVi (As := [.int v1]) (rest := []) C hw 5 (by decide) (ci := 5) rfl rfl (mX5_holds l D T ad lg H.size v1 sg2 hq7) (cwV 1 hts gX11_stand_X5_holds rfl rfl rfl (by decide +kernel) ⟨Nat.le_of_ble_eq_true rfl, Nat.le_of_ble_eq_true rfl⟩) rfl hl.1 rfl (Nat.le_of_ble_eq_true rfl) dX11_stand_16 ⟨Nat.le_of_ble_eq_true rfl, Nat.le_of_ble_eq_true rfl⟩ (fun ad' H locs hp hw => ?_)
    subst hp
    refine W.widen (k := 0) (n := 0) (by decide) (by decide) ?_
    refine lv_if_eq (tgt := 26) hx hb dX11_stand_19 (by decide) (fun c8 => ?_) (fun c8 => ?_)
    · replace h := ite_t h c8
      refine lv_aload_n hx hb dX11_stand_26 rfl (lv_at hl 0 rfl) ?_
      refine r_getR (ci := 11) (C := RX11) (U := TX11) (N := 9) hx hb hts kX11_stand_iX11 hown hK hw 0 (by decide) rfl rfl 4 (by decide) 5 rfl (hts _ kX11_stand_f44) (fun _ h9 => h9) dX11_stand_27 ?_
      refine r_getI (ci := 5) (C := RX5) (U := TX5) (N := 2) hx hb hts kX11_stand_iX5 hown hK hw 5 (by decide) rfl rfl 0 (by decide) rfl (hts _ kX11_stand_f166) (fun _ h9 => h9) dX11_stand_30 ?_
      refine lv_bipush (v := (12 : Int32)) hx hb dX11_stand_33 (by decide) ?_
      refine lv_icmp_lt (tgt := 42) hx hb dX11_stand_35 (by decide) (fun c9 => ?_) (fun c9 => ?_)
      · replace h := ite_t h c9
        refine lv_aload_n hx hb dX11_stand_42 rfl (lv_at hl 0 rfl) ?_
        refine r_getR (ci := 11) (C := RX11) (U := TX11) (N := 9) hx hb hts kX11_stand_iX11 hown hK hw 0 (by decide) rfl rfl 4 (by decide) 5 rfl (hts _ kX11_stand_f44) (fun _ h9 => h9) dX11_stand_43 ?_
        refine lv_iload_n hx hb dX11_stand_46 rfl (lv_at hl 1 rfl) ?_
        obtain ⟨sg10, hq11, h2⟩ := bnd1_some h
        replace h := h2
        clear h2
        refine r_cVv (As := [.int v1]) (rest := []) C hw 5 (by decide) (ci := 5) rfl rfl (mX5_append l D T ad lg H.size v1 sg6 hq11) (cwV 1 hts gX11_stand_X5_append rfl rfl rfl (by decide +kernel) ⟨Nat.le_of_ble_eq_true rfl, Nat.le_of_ble_eq_true rfl⟩) rfl hl.1 rfl (Nat.le_of_ble_eq_true rfl) dX11_stand_47 ⟨Nat.le_of_ble_eq_true rfl, Nat.le_of_ble_eq_true rfl⟩ (fun ad' H locs hp hw => ?_)
        subst hp
        refine W.widen (k := 0) (n := 0) (by decide) (by decide) ?_
        refine lv_aload_n hx hb dX11_stand_50 rfl (lv_at hl 0 rfl) ?_
        refine r_getR (ci := 11) (C := RX11) (U := TX11) (N := 9) hx hb hts kX11_stand_iX11 hown hK hw 0 (by decide) rfl rfl 4 (by decide) 5 rfl (hts _ kX11_stand_f44) (fun _ h9 => h9) dX11_stand_51 ?_
        refine r_getI (ci := 5) (C := RX5) (U := TX5) (N := 2) hx hb hts kX11_stand_iX5 hown hK hw 5 (by decide) rfl rfl 0 (by decide) rfl (hts _ kX11_stand_f166) (fun _ h9 => h9) dX11_stand_54 ?_
        refine lv_i2l (v := (sg10 5 0).toInt64) hx hb dX11_stand_57 rfl ?_
        cases h
        exact r_lret C hw rfl (by decide) (by decide) dX11_stand_58
      · replace h := ite_f h c9
        refine lv_ldc2 hx hb hown (hts _ kX11_stand_c90) dX11_stand_38 ?_
        cases h
        exact r_lret C hw rfl (by decide) (by decide) dX11_stand_41
    · replace h := ite_f h c8
      refine lv_ldc2 hx hb hown (hts _ kX11_stand_c88) dX11_stand_22 ?_
      cases h
      exact r_lret C hw rfl (by decide) (by decide) dX11_stand_25
theorem mX11_stand (l : Launch) (D : va_G) (T : Nat → ClassId) (ad : Nat → Nat) (lg : Lg) (sz : Nat)   (v1 : Int32) (sg : Sg) {ro : Int64} {so : Sg} (h : fX11_stand v1 sg = some (ro, so)) : Met l yX11_stand wsX11_stand rmX11_stand (PreZ ZC D vwCl T (tysC T) ad sg lg true nwL [.ref (ad 0), .int v1] sz) (QL ZC D vwCl T (tysC T) (va_A (zwd ZC T ad sg lg) sz) (fun z => ad = z) ro so lg) 0 0 (va_A (zwd ZC T ad sg lg) sz) :=
  metZ [.ref (ad 0), .int v1] sz (by decide) rfl (Nat.le_of_ble_eq_true rfl) (fun p e s m below meth c ls C hw hl => tX11_stand_0 C v1 sg _ _ _ hw hl h)
-- PeckYard$Hand.isPlace(I)Z
def rmX5_isPlace : Room := { frames := 0, cells := 0, slots := 0, locals := 0 }
theorem kX5_isPlace_f15 : Cond.fieldLink RX5 15 "PeckYard$Hand" "size" "I" ∈ wsX5_isPlace := by decide +kernel
theorem kX5_isPlace_iX5 : ∀ w ∈ u_ws RX5 TX5 2, w ∈ wsX5_isPlace := by decide +kernel
def fX5_isPlace  (v1 : Int32) (sg : Sg) : Option (Int32 × Sg) :=
  (if v1 < 0 then some ((0 : Int32), sg) else (if (sg 5 0) ≤ v1 then some ((0 : Int32), sg) else some ((1 : Int32), sg)))
set_option maxHeartbeats 4000000 in
set_option maxRecDepth 100000 in
theorem tX5_isPlace_0 (C : Cx p s m args meth c cX5_isPlace 2 RX5 wsX5_isPlace (some .boolean) D vwCl (tysC T) A true nwL) {ro : Int32} {so : Sg}   : ∀ (v1 : Int32) (sg : Sg), ∀ (H : Heap) (locs : List Loc) (ls : Array Slot), WS ZC D vwCl T ad sg lg A s.heap H locs → lv_has ls 2 [(0, .ref (ad 5)), (1, .int v1)] → fX5_isPlace v1 sg = some (ro, so) → W p l e rmX5_isPlace s m args below meth c H locs 0 0 (MQ below (QI ZC D vwCl T (tysC T) A (fun z => ad = z) ro so lg) args s 0 0 A) (F0 m 0 ls []) := by
  obtain ⟨⟨hx, hb, hml, hown, hts⟩, hr, hlk, hK, hA, hsp⟩ := id C
  intro v1 sg H locs ls hw hl h
  unfold fX5_isPlace at h
  refine lv_iload_n hx hb dX5_isPlace_0 rfl (lv_at hl 1 rfl) ?_
  refine lv_if_lt (tgt := 16) hx hb dX5_isPlace_1 (by decide) (fun c1 => ?_) (fun c1 => ?_)
  · replace h := ite_t h c1
    refine lv_iconst (v := (0 : Int32)) hx hb dX5_isPlace_16 (by decide) ?_
    cases h
    exact r_zret C hw rfl (by decide) (by decide) (by decide) dX5_isPlace_17
  · replace h := ite_f h c1
    refine lv_iload_n hx hb dX5_isPlace_4 rfl (lv_at hl 1 rfl) ?_
    refine lv_aload_n hx hb dX5_isPlace_5 rfl (lv_at hl 0 rfl) ?_
    refine r_getI (ci := 5) (C := RX5) (U := TX5) (N := 2) hx hb hts kX5_isPlace_iX5 hown hK hw 5 (by decide) rfl rfl 0 (by decide) rfl (hts _ kX5_isPlace_f15) (fun _ h9 => h9) dX5_isPlace_6 ?_
    refine lv_icmp_ge (tgt := 16) hx hb dX5_isPlace_9 (by decide) (fun c2 => ?_) (fun c2 => ?_)
    · replace h := ite_t h c2
      refine lv_iconst (v := (0 : Int32)) hx hb dX5_isPlace_16 (by decide) ?_
      cases h
      exact r_zret C hw rfl (by decide) (by decide) (by decide) dX5_isPlace_17
    · replace h := ite_f h c2
      refine lv_iconst (v := (1 : Int32)) hx hb dX5_isPlace_12 (by decide) ?_
      refine lv_goto (tgt := 17) hx hb dX5_isPlace_13 (by decide) ?_
      cases h
      exact r_zret C hw rfl (by decide) (by decide) (by decide) dX5_isPlace_17
theorem mX5_isPlace (l : Launch) (D : va_G) (T : Nat → ClassId) (ad : Nat → Nat) (lg : Lg) (sz : Nat)   (v1 : Int32) (sg : Sg) {ro : Int32} {so : Sg} (h : fX5_isPlace v1 sg = some (ro, so)) : Met l yX5_isPlace wsX5_isPlace rmX5_isPlace (PreZ ZC D vwCl T (tysC T) ad sg lg true nwL [.ref (ad 5), .int v1] sz) (QI ZC D vwCl T (tysC T) (va_A (zwd ZC T ad sg lg) sz) (fun z => ad = z) ro so lg) 0 0 (va_A (zwd ZC T ad sg lg) sz) :=
  metZ [.ref (ad 5), .int v1] sz (by decide) rfl (Nat.le_of_ble_eq_true rfl) (fun p e s m below meth c ls C hw hl => tX5_isPlace_0 C v1 sg _ _ _ hw hl h)
-- PeckYard.order(I)J
def rmX11_order : Room := { frames := 1, cells := 0, slots := 0, locals := 21 }
theorem kX11_order_f44 : Cond.fieldLink RX11 44 "PeckYard" "hand" "LPeckYard$Hand;" ∈ wsX11_order := by decide +kernel
theorem kX11_order_iX11 : ∀ w ∈ u_ws RX11 TX11 9, w ∈ wsX11_order := by decide +kernel
theorem kX11_order_c88 : Cond.constantLong RX11 88 (-2000000001) ∈ wsX11_order := by decide +kernel
theorem kX11_order_f202 : Cond.fieldLink RX11 202 "PeckYard$Hand" "hens" "[I" ∈ wsX11_order := by decide +kernel
theorem kX11_order_iX5 : ∀ w ∈ u_ws RX5 TX5 2, w ∈ wsX11_order := by decide +kernel
def fX11_order  (v1 : Int32) (sg : Sg) : Option (Int64 × Sg) :=
  bnd2 (fX5_isPlace v1 sg) (fun y1 sg2 => (if y1 = 0 then some ((-2000000001 : Int64), sg2) else gin v1 12 (some ((sg2 31 v1.toNatClampNeg).toInt64, sg2))))
set_option maxHeartbeats 4000000 in
set_option maxRecDepth 100000 in
theorem tX11_order_0 (C : Cx p s m args meth c cX11_order 2 RX11 wsX11_order (some .long) D vwCl (tysC T) A true nwL) {ro : Int64} {so : Sg}   : ∀ (v1 : Int32) (sg : Sg), ∀ (H : Heap) (locs : List Loc) (ls : Array Slot), WS ZC D vwCl T ad sg lg A s.heap H locs → lv_has ls 2 [(0, .ref (ad 0)), (1, .int v1)] → fX11_order v1 sg = some (ro, so) → W p l e rmX11_order s m args below meth c H locs 0 0 (MQ below (QL ZC D vwCl T (tysC T) A (fun z => ad = z) ro so lg) args s 0 0 A) (F0 m 0 ls []) := by
  obtain ⟨⟨hx, hb, hml, hown, hts⟩, hr, hlk, hK, hA, hsp⟩ := id C
  intro v1 sg H locs ls hw hl h
  unfold fX11_order at h
  refine lv_aload_n hx hb dX11_order_0 rfl (lv_at hl 0 rfl) ?_
  refine r_getR (ci := 11) (C := RX11) (U := TX11) (N := 9) hx hb hts kX11_order_iX11 hown hK hw 0 (by decide) rfl rfl 4 (by decide) 5 rfl (hts _ kX11_order_f44) (fun _ h9 => h9) dX11_order_1 ?_
  refine lv_iload_n hx hb dX11_order_4 rfl (lv_at hl 1 rfl) ?_
  obtain ⟨y1, sg2, hq3, h2⟩ := bnd2_some h
  replace h := h2
  clear h2
  refine r_cVi (As := [.int v1]) (rest := []) C hw 5 (by decide) (ci := 5) rfl rfl (mX5_isPlace l D T ad lg H.size v1 sg hq3) (cwV 1 hts gX11_order_X5_isPlace rfl rfl rfl (by decide +kernel) ⟨Nat.le_of_ble_eq_true rfl, Nat.le_of_ble_eq_true rfl⟩) rfl hl.1 rfl (Nat.le_of_ble_eq_true rfl) dX11_order_5 ⟨Nat.le_of_ble_eq_true rfl, Nat.le_of_ble_eq_true rfl⟩ (fun ad' H locs hp hw => ?_)
  subst hp
  refine W.widen (k := 0) (n := 0) (by decide) (by decide) ?_
  refine lv_if_eq (tgt := 24) hx hb dX11_order_8 (by decide) (fun c4 => ?_) (fun c4 => ?_)
  · replace h := ite_t h c4
    refine lv_ldc2 hx hb hown (hts _ kX11_order_c88) dX11_order_24 ?_
    cases h
    exact r_lret C hw rfl (by decide) (by decide) dX11_order_27
  · replace h := ite_f h c4
    refine lv_aload_n hx hb dX11_order_11 rfl (lv_at hl 0 rfl) ?_
    refine r_getR (ci := 11) (C := RX11) (U := TX11) (N := 9) hx hb hts kX11_order_iX11 hown hK hw 0 (by decide) rfl rfl 4 (by decide) 5 rfl (hts _ kX11_order_f44) (fun _ h9 => h9) dX11_order_12 ?_
    refine r_getR (ci := 5) (C := RX5) (U := TX5) (N := 2) hx hb hts kX11_order_iX5 hown hK hw 5 (by decide) rfl rfl 1 (by decide) 31 rfl (hts _ kX11_order_f202) (fun _ h9 => h9) dX11_order_15 ?_
    refine lv_iload_n hx hb dX11_order_18 rfl (lv_at hl 1 rfl) ?_
    have hi5 := (gin_some h).1
    replace h := (gin_some h).2
    refine r_iald hx hb hK hw 31 0 12 (by decide) rfl rfl rfl hi5 dX11_order_19 ?_
    refine lv_i2l (v := (sg2 31 v1.toNatClampNeg).toInt64) hx hb dX11_order_20 rfl ?_
    refine lv_goto (tgt := 27) hx hb dX11_order_21 (by decide) ?_
    cases h
    exact r_lret C hw rfl (by decide) (by decide) dX11_order_27
theorem mX11_order (l : Launch) (D : va_G) (T : Nat → ClassId) (ad : Nat → Nat) (lg : Lg) (sz : Nat)   (v1 : Int32) (sg : Sg) {ro : Int64} {so : Sg} (h : fX11_order v1 sg = some (ro, so)) : Met l yX11_order wsX11_order rmX11_order (PreZ ZC D vwCl T (tysC T) ad sg lg true nwL [.ref (ad 0), .int v1] sz) (QL ZC D vwCl T (tysC T) (va_A (zwd ZC T ad sg lg) sz) (fun z => ad = z) ro so lg) 0 0 (va_A (zwd ZC T ad sg lg) sz) :=
  metZ [.ref (ad 0), .int v1] sz (by decide) rfl (Nat.le_of_ble_eq_true rfl) (fun p e s m below meth c ls C hw hl => tX11_order_0 C v1 sg _ _ _ hw hl h)
-- PeckYard.shift([III)V
def rmX11_shift_c31 : Room := { frames := 0, cells := 0, slots := 0, locals := 0 }
def fX11_shift_c31_32 (r32 : (Int32 × Int32 × Int32 × Sg) → Option (Sg)) (v2 : Int32) (v3 : Int32) (v4 : Int32) (sg : Sg) : Option (Sg) :=
  (if v4 ≤ v2 then gin v2 12 (lt (up2 sg 31 v2.toNatClampNeg v3) (fun sg3 => some sg3)) else lt (v4 - (1 : Int32)) (fun x4 => gin x4 12 (lt (sg 31 x4.toNatClampNeg) (fun x6 => gin v4 12 (lt (up2 sg 31 v4.toNatClampNeg x6) (fun sg8 => lt (v4 + (-1 : Int32)) (fun x9 => r32 (v2, v3, x9, sg8))))))))
set_option maxHeartbeats 4000000 in
set_option maxRecDepth 100000 in
theorem tX11_shift_c31_32 (C : Cx p s m args meth c cX11_shift 5 RX11 wsX11_shift none D vwCl (tysC T) A true nwL) {so : Sg} {r32 : (Int32 × Int32 × Int32 × Sg) → Option (Sg)} (hr32 : ∀ (v2 : Int32) (v3 : Int32) (v4 : Int32) (sg : Sg), r32 (v2, v3, v4, sg) = some so → ∀ (H : Heap) (locs : List Loc) (ls : Array Slot), WS ZC D vwCl T ad sg lg A s.heap H locs → lv_has ls 5 [(0, .ref (ad 31)), (2, .int v2), (3, .int v3), (4, .int v4)] → W p l e rmX11_shift_c31 s m args below meth c H locs 0 0 (MQ below (QV ZC D vwCl T (tysC T) A (fun z => ad = z) so lg) args s 0 0 A) (F0 m 32 ls [])) : ∀ (v2 : Int32) (v3 : Int32) (v4 : Int32) (sg : Sg), ∀ (H : Heap) (locs : List Loc) (ls : Array Slot), WS ZC D vwCl T ad sg lg A s.heap H locs → lv_has ls 5 [(0, .ref (ad 31)), (2, .int v2), (3, .int v3), (4, .int v4)] → fX11_shift_c31_32 r32 v2 v3 v4 sg = some so → W p l e rmX11_shift_c31 s m args below meth c H locs 0 0 (MQ below (QV ZC D vwCl T (tysC T) A (fun z => ad = z) so lg) args s 0 0 A) (F0 m 32 ls []) := by
  obtain ⟨⟨hx, hb, hml, hown, hts⟩, hr, hlk, hK, hA, hsp⟩ := id C
  intro v2 v3 v4 sg H locs ls hw hl h
  unfold fX11_shift_c31_32 at h
  refine lv_iload hx hb dX11_shift_32 (lv_at hl 3 rfl) ?_
  refine lv_iload_n hx hb dX11_shift_34 rfl (lv_at hl 1 rfl) ?_
  refine lv_icmp_le (tgt := 54) hx hb dX11_shift_35 (by decide) (fun c1 => ?_) (fun c1 => ?_)
  · replace h := ite_t h c1
    refine lv_aload_n hx hb dX11_shift_54 rfl (lv_at hl 0 rfl) ?_
    refine lv_iload_n hx hb dX11_shift_55 rfl (lv_at hl 1 rfl) ?_
    refine lv_iload_n hx hb dX11_shift_56 rfl (lv_at hl 2 rfl) ?_
    have hi2 := (gin_some h).1
    replace h := (gin_some h).2
    refine r_iast ZC_ok hx hb hK hw 31 0 12 (by decide) rfl rfl rfl hi2 dX11_shift_57 (fun H locs sg3 esg3 hw => ?_)
    replace h := lt_get h sg3 esg3
    cases h
    exact r_vret C hw rfl (by decide) (by decide) dX11_shift_58
  · replace h := ite_f h c1
    refine lv_aload_n hx hb dX11_shift_38 rfl (lv_at hl 0 rfl) ?_
    refine lv_iload hx hb dX11_shift_39 (lv_at hl 3 rfl) ?_
    refine lv_aload_n hx hb dX11_shift_41 rfl (lv_at hl 0 rfl) ?_
    refine lv_iload hx hb dX11_shift_42 (lv_at hl 3 rfl) ?_
    refine lv_iconst (v := (1 : Int32)) hx hb dX11_shift_44 (by decide) ?_
    refine lv_isub hx hb dX11_shift_45 ?_
    refine lv_topi (fun x4 ex4 => ?_)
    replace h := lt_get h x4 ex4
    have hi5 := (gin_some h).1
    replace h := (gin_some h).2
    refine r_iald hx hb hK hw 31 0 12 (by decide) rfl rfl rfl hi5 dX11_shift_46 ?_
    refine lv_topi (fun x6 ex6 => ?_)
    replace h := lt_get h x6 ex6
    have hi7 := (gin_some h).1
    replace h := (gin_some h).2
    refine r_iast ZC_ok hx hb hK hw 31 0 12 (by decide) rfl rfl rfl hi7 dX11_shift_47 (fun H locs sg8 esg8 hw => ?_)
    replace h := lt_get h sg8 esg8
    obtain ⟨x9, ex9⟩ : ∃ z : Int32, z = (v4 + (-1 : Int32)) := ⟨_, rfl⟩
    replace h := lt_get h x9 ex9
    refine lv_iinc (v := x9) (lv' := [(4, .int x9), (0, .ref (ad 31)), (2, .int v2), (3, .int v3)]) hx hb dX11_shift_48 hl (k := 3) rfl (by rw [ex9]; rfl) (by decide) rfl (fun ls hl => ?_)
    refine lv_goto (tgt := 32) hx hb dX11_shift_51 (by decide) ?_
    exact hr32 v2 v3 x9 sg8 h _ _ _ hw (lv_sub hl [1, 2, 3, 0] rfl)
def LX11_shift_c31_32  : (Int32 × Int32 × Int32 × Sg) → Option (Sg) := loop (fun rec z => fX11_shift_c31_32 rec z.1 z.2.1 z.2.2.1 z.2.2.2)
theorem TX11_shift_c31_32 (C : Cx p s m args meth c cX11_shift 5 RX11 wsX11_shift none D vwCl (tysC T) A true nwL) {so : Sg}   : ∀ (v2 : Int32) (v3 : Int32) (v4 : Int32) (sg : Sg), LX11_shift_c31_32 (v2, v3, v4, sg) = some so → ∀ (H : Heap) (locs : List Loc) (ls : Array Slot), WS ZC D vwCl T ad sg lg A s.heap H locs → lv_has ls 5 [(0, .ref (ad 31)), (2, .int v2), (3, .int v3), (4, .int v4)] → W p l e rmX11_shift_c31 s m args below meth c H locs 0 0 (MQ below (QV ZC D vwCl T (tysC T) A (fun z => ad = z) so lg) args s 0 0 A) (F0 m 32 ls []) := by
  have key : ∀ z : (Int32 × Int32 × Int32 × Sg), LX11_shift_c31_32  z = some so → ∀ (H : Heap) (locs : List Loc) (ls : Array Slot), WS ZC D vwCl T ad z.2.2.2 lg A s.heap H locs → lv_has ls 5 [(0, .ref (ad 31)), (2, .int z.1), (3, .int z.2.1), (4, .int z.2.2.1)] → W p l e rmX11_shift_c31 s m args below meth c H locs 0 0 (MQ below (QV ZC D vwCl T (tysC T) A (fun z => ad = z) so lg) args s 0 0 A) (F0 m 32 ls []) := by
    intro z h
    unfold LX11_shift_c31_32 at h
    exact loop_ind (fun rec z => fX11_shift_c31_32 rec z.1 z.2.1 z.2.2.1 z.2.2.2) (y := so) (P := fun z => ∀ (H : Heap) (locs : List Loc) (ls : Array Slot), WS ZC D vwCl T ad z.2.2.2 lg A s.heap H locs → lv_has ls 5 [(0, .ref (ad 31)), (2, .int z.1), (3, .int z.2.1), (4, .int z.2.2.1)] → W p l e rmX11_shift_c31 s m args below meth c H locs 0 0 (MQ below (QV ZC D vwCl T (tysC T) A (fun z => ad = z) so lg) args s 0 0 A) (F0 m 32 ls [])) (fun rec hrec z h H locs ls hw hl => tX11_shift_c31_32 C  (fun v2 v3 v4 sg => hrec (v2, v3, v4, sg)) z.1 z.2.1 z.2.2.1 z.2.2.2 H locs ls hw hl h) z h
  exact fun v2 v3 v4 sg => key (v2, v3, v4, sg)
def fX11_shift_c31_7 (r7 : (Int32 × Int32 × Int32 × Int32 × Sg) → Option (Sg)) (v1 : Int32) (v2 : Int32) (v3 : Int32) (v4 : Int32) (sg : Sg) : Option (Sg) :=
  (if v2 ≤ v4 then LX11_shift_c31_32 (v2, v3, v1, sg) else lt (v4 + (1 : Int32)) (fun x2 => gin x2 12 (lt (sg 31 x2.toNatClampNeg) (fun x4 => gin v4 12 (lt (up2 sg 31 v4.toNatClampNeg x4) (fun sg6 => lt (v4 + (1 : Int32)) (fun x7 => r7 (v1, v2, v3, x7, sg6))))))))
set_option maxHeartbeats 4000000 in
set_option maxRecDepth 100000 in
theorem tX11_shift_c31_7 (C : Cx p s m args meth c cX11_shift 5 RX11 wsX11_shift none D vwCl (tysC T) A true nwL) {so : Sg} {r7 : (Int32 × Int32 × Int32 × Int32 × Sg) → Option (Sg)} (hr7 : ∀ (v1 : Int32) (v2 : Int32) (v3 : Int32) (v4 : Int32) (sg : Sg), r7 (v1, v2, v3, v4, sg) = some so → ∀ (H : Heap) (locs : List Loc) (ls : Array Slot), WS ZC D vwCl T ad sg lg A s.heap H locs → lv_has ls 5 [(0, .ref (ad 31)), (1, .int v1), (2, .int v2), (3, .int v3), (4, .int v4)] → W p l e rmX11_shift_c31 s m args below meth c H locs 0 0 (MQ below (QV ZC D vwCl T (tysC T) A (fun z => ad = z) so lg) args s 0 0 A) (F0 m 7 ls [])) : ∀ (v1 : Int32) (v2 : Int32) (v3 : Int32) (v4 : Int32) (sg : Sg), ∀ (H : Heap) (locs : List Loc) (ls : Array Slot), WS ZC D vwCl T ad sg lg A s.heap H locs → lv_has ls 5 [(0, .ref (ad 31)), (1, .int v1), (2, .int v2), (3, .int v3), (4, .int v4)] → fX11_shift_c31_7 r7 v1 v2 v3 v4 sg = some so → W p l e rmX11_shift_c31 s m args below meth c H locs 0 0 (MQ below (QV ZC D vwCl T (tysC T) A (fun z => ad = z) so lg) args s 0 0 A) (F0 m 7 ls []) := by
  obtain ⟨⟨hx, hb, hml, hown, hts⟩, hr, hlk, hK, hA, hsp⟩ := id C
  intro v1 v2 v3 v4 sg H locs ls hw hl h
  unfold fX11_shift_c31_7 at h
  refine lv_iload hx hb dX11_shift_7 (lv_at hl 4 rfl) ?_
  refine lv_iload_n hx hb dX11_shift_9 rfl (lv_at hl 2 rfl) ?_
  refine lv_icmp_ge (tgt := 29) hx hb dX11_shift_10 (by decide) (fun c1 => ?_) (fun c1 => ?_)
  · replace h := ite_t h c1
    refine lv_iload_n hx hb dX11_shift_29 rfl (lv_at hl 1 rfl) ?_
    refine lv_istore (lv' := [(4, .int v1), (0, .ref (ad 31)), (1, .int v1), (2, .int v2), (3, .int v3)]) hx hb dX11_shift_30 hl (by decide) rfl (fun ls hl => ?_)
    exact TX11_shift_c31_32 C v2 v3 v1 sg h _ _ _ hw (lv_sub hl [1, 3, 4, 0] rfl)
  · replace h := ite_f h c1
    refine lv_aload_n hx hb dX11_shift_13 rfl (lv_at hl 0 rfl) ?_
    refine lv_iload hx hb dX11_shift_14 (lv_at hl 4 rfl) ?_
    refine lv_aload_n hx hb dX11_shift_16 rfl (lv_at hl 0 rfl) ?_
    refine lv_iload hx hb dX11_shift_17 (lv_at hl 4 rfl) ?_
    refine lv_iconst (v := (1 : Int32)) hx hb dX11_shift_19 (by decide) ?_
    refine lv_iadd hx hb dX11_shift_20 ?_
    refine lv_topi (fun x2 ex2 => ?_)
    replace h := lt_get h x2 ex2
    have hi3 := (gin_some h).1
    replace h := (gin_some h).2
    refine r_iald hx hb hK hw 31 0 12 (by decide) rfl rfl rfl hi3 dX11_shift_21 ?_
    refine lv_topi (fun x4 ex4 => ?_)
    replace h := lt_get h x4 ex4
    have hi5 := (gin_some h).1
    replace h := (gin_some h).2
    refine r_iast ZC_ok hx hb hK hw 31 0 12 (by decide) rfl rfl rfl hi5 dX11_shift_22 (fun H locs sg6 esg6 hw => ?_)
    replace h := lt_get h sg6 esg6
    obtain ⟨x7, ex7⟩ : ∃ z : Int32, z = (v4 + (1 : Int32)) := ⟨_, rfl⟩
    replace h := lt_get h x7 ex7
    refine lv_iinc (v := x7) (lv' := [(4, .int x7), (0, .ref (ad 31)), (1, .int v1), (2, .int v2), (3, .int v3)]) hx hb dX11_shift_23 hl (k := 4) rfl (by rw [ex7]; rfl) (by decide) rfl (fun ls hl => ?_)
    refine lv_goto (tgt := 7) hx hb dX11_shift_26 (by decide) ?_
    exact hr7 v1 v2 v3 x7 sg6 h _ _ _ hw (lv_sub hl [1, 2, 3, 4, 0] rfl)
def LX11_shift_c31_7  : (Int32 × Int32 × Int32 × Int32 × Sg) → Option (Sg) := loop (fun rec z => fX11_shift_c31_7 rec z.1 z.2.1 z.2.2.1 z.2.2.2.1 z.2.2.2.2)
theorem TX11_shift_c31_7 (C : Cx p s m args meth c cX11_shift 5 RX11 wsX11_shift none D vwCl (tysC T) A true nwL) {so : Sg}   : ∀ (v1 : Int32) (v2 : Int32) (v3 : Int32) (v4 : Int32) (sg : Sg), LX11_shift_c31_7 (v1, v2, v3, v4, sg) = some so → ∀ (H : Heap) (locs : List Loc) (ls : Array Slot), WS ZC D vwCl T ad sg lg A s.heap H locs → lv_has ls 5 [(0, .ref (ad 31)), (1, .int v1), (2, .int v2), (3, .int v3), (4, .int v4)] → W p l e rmX11_shift_c31 s m args below meth c H locs 0 0 (MQ below (QV ZC D vwCl T (tysC T) A (fun z => ad = z) so lg) args s 0 0 A) (F0 m 7 ls []) := by
  have key : ∀ z : (Int32 × Int32 × Int32 × Int32 × Sg), LX11_shift_c31_7  z = some so → ∀ (H : Heap) (locs : List Loc) (ls : Array Slot), WS ZC D vwCl T ad z.2.2.2.2 lg A s.heap H locs → lv_has ls 5 [(0, .ref (ad 31)), (1, .int z.1), (2, .int z.2.1), (3, .int z.2.2.1), (4, .int z.2.2.2.1)] → W p l e rmX11_shift_c31 s m args below meth c H locs 0 0 (MQ below (QV ZC D vwCl T (tysC T) A (fun z => ad = z) so lg) args s 0 0 A) (F0 m 7 ls []) := by
    intro z h
    unfold LX11_shift_c31_7 at h
    exact loop_ind (fun rec z => fX11_shift_c31_7 rec z.1 z.2.1 z.2.2.1 z.2.2.2.1 z.2.2.2.2) (y := so) (P := fun z => ∀ (H : Heap) (locs : List Loc) (ls : Array Slot), WS ZC D vwCl T ad z.2.2.2.2 lg A s.heap H locs → lv_has ls 5 [(0, .ref (ad 31)), (1, .int z.1), (2, .int z.2.1), (3, .int z.2.2.1), (4, .int z.2.2.2.1)] → W p l e rmX11_shift_c31 s m args below meth c H locs 0 0 (MQ below (QV ZC D vwCl T (tysC T) A (fun z => ad = z) so lg) args s 0 0 A) (F0 m 7 ls [])) (fun rec hrec z h H locs ls hw hl => tX11_shift_c31_7 C  (fun v1 v2 v3 v4 sg => hrec (v1, v2, v3, v4, sg)) z.1 z.2.1 z.2.2.1 z.2.2.2.1 z.2.2.2.2 H locs ls hw hl h) z h
  exact fun v1 v2 v3 v4 sg => key (v1, v2, v3, v4, sg)
def fX11_shift_c31  (v1 : Int32) (v2 : Int32) (sg : Sg) : Option (Sg) :=
  gin v1 12 (lt (sg 31 v1.toNatClampNeg) (fun x2 => LX11_shift_c31_7 (v1, v2, x2, v1, sg)))
set_option maxHeartbeats 4000000 in
set_option maxRecDepth 100000 in
theorem tX11_shift_c31_0 (C : Cx p s m args meth c cX11_shift 5 RX11 wsX11_shift none D vwCl (tysC T) A true nwL) {so : Sg}   : ∀ (v1 : Int32) (v2 : Int32) (sg : Sg), ∀ (H : Heap) (locs : List Loc) (ls : Array Slot), WS ZC D vwCl T ad sg lg A s.heap H locs → lv_has ls 5 [(0, .ref (ad 31)), (1, .int v1), (2, .int v2)] → fX11_shift_c31 v1 v2 sg = some so → W p l e rmX11_shift_c31 s m args below meth c H locs 0 0 (MQ below (QV ZC D vwCl T (tysC T) A (fun z => ad = z) so lg) args s 0 0 A) (F0 m 0 ls []) := by
  obtain ⟨⟨hx, hb, hml, hown, hts⟩, hr, hlk, hK, hA, hsp⟩ := id C
  intro v1 v2 sg H locs ls hw hl h
  unfold fX11_shift_c31 at h
  refine lv_aload_n hx hb dX11_shift_0 rfl (lv_at hl 0 rfl) ?_
  refine lv_iload_n hx hb dX11_shift_1 rfl (lv_at hl 1 rfl) ?_
  have hi1 := (gin_some h).1
  replace h := (gin_some h).2
  refine r_iald hx hb hK hw 31 0 12 (by decide) rfl rfl rfl hi1 dX11_shift_2 ?_
  refine lv_topi (fun x2 ex2 => ?_)
  replace h := lt_get h x2 ex2
  refine lv_istore_n (lv' := [(3, .int x2), (0, .ref (ad 31)), (1, .int v1), (2, .int v2)]) hx hb dX11_shift_3 rfl hl (by decide) rfl (fun ls hl => ?_)
  refine lv_iload_n hx hb dX11_shift_4 rfl (lv_at hl 2 rfl) ?_
  refine lv_istore (lv' := [(4, .int v1), (3, .int x2), (0, .ref (ad 31)), (1, .int v1), (2, .int v2)]) hx hb dX11_shift_5 hl (by decide) rfl (fun ls hl => ?_)
  exact TX11_shift_c31_7 C v1 v2 x2 v1 sg h _ _ _ hw (lv_sub hl [2, 3, 4, 1, 0] rfl)
theorem mX11_shift_c31 (l : Launch) (D : va_G) (T : Nat → ClassId) (ad : Nat → Nat) (lg : Lg) (sz : Nat)   (v1 : Int32) (v2 : Int32) (sg : Sg) {so : Sg} (h : fX11_shift_c31 v1 v2 sg = some so) : Met l yX11_shift wsX11_shift rmX11_shift_c31 (PreZ ZC D vwCl T (tysC T) ad sg lg true nwL [.ref (ad 31), .int v1, .int v2] sz) (QV ZC D vwCl T (tysC T) (va_A (zwd ZC T ad sg lg) sz) (fun z => ad = z) so lg) 0 0 (va_A (zwd ZC T ad sg lg) sz) :=
  metZ [.ref (ad 31), .int v1, .int v2] sz (by decide) rfl (Nat.le_of_ble_eq_true rfl) (fun p e s m below meth c ls C hw hl => tX11_shift_c31_0 C v1 v2 sg _ _ _ hw hl h)
end ZC
