section ZC
variable {p : Program} {l : Launch} {e : Env} {s : State} {m : MethodId} {args : Array Value} {below : List Frame} {meth : Method} {c : Code} {D : va_G} {T : Nat → ClassId} {A : Nat → Prop} {ad a : Nat → Nat} {lg : Lg}
-- PeckYard$Halves.costBelow(II)I
def rmX4_costBelow : Room := { frames := 0, cells := 0, slots := 0, locals := 0 }
theorem kX4_costBelow_f15 : Cond.fieldLink RX4 15 "PeckYard$Halves" "lowCost" "[I" ∈ wsX4_costBelow := by decide +kernel
theorem kX4_costBelow_iX4 : ∀ w ∈ u_ws RX4 TX4 8, w ∈ wsX4_costBelow := by decide +kernel
theorem kX4_costBelow_f19 : Cond.fieldLink RX4 19 "PeckYard$Halves" "highCost" "[I" ∈ wsX4_costBelow := by decide +kernel
def fX4_costBelow  (v1 : Int32) (v2 : Int32) (sg : Sg) : Option (Int32 × Sg) :=
  lt ((v2 * (64 : Int32)) + (v1 &&& (63 : Int32))) (fun x1 => gin x1 768 (lt ((v2 * (64 : Int32)) + ((v1 >>> ((6 : Int32) &&& 31)) &&& (63 : Int32))) (fun x3 => gin x3 768 (some (((sg 25 x1.toNatClampNeg) + (sg 26 x3.toNatClampNeg)), sg)))))
set_option maxHeartbeats 4000000 in
set_option maxRecDepth 100000 in
theorem tX4_costBelow_0 (C : Cx p s m args meth c cX4_costBelow 3 RX4 wsX4_costBelow (some .int) D vwCl (tysC T) A true nwL) {ro : Int32} {so : Sg}   : ∀ (v1 : Int32) (v2 : Int32) (sg : Sg), ∀ (H : Heap) (locs : List Loc) (ls : Array Slot), WS ZC D vwCl T ad sg lg A s.heap H locs → lv_has ls 3 [(0, .ref (ad 10)), (1, .int v1), (2, .int v2)] → fX4_costBelow v1 v2 sg = some (ro, so) → W p l e rmX4_costBelow s m args below meth c H locs 0 0 (MQ below (QI ZC D vwCl T (tysC T) A (fun z => ad = z) ro so lg) args s 0 0 A) (F0 m 0 ls []) := by
  obtain ⟨⟨hx, hb, hml, hown, hts⟩, hr, hlk, hK, hA, hsp⟩ := id C
  intro v1 v2 sg H locs ls hw hl h
  unfold fX4_costBelow at h
  refine lv_aload_n hx hb dX4_costBelow_0 rfl (lv_at hl 0 rfl) ?_
  refine r_getR (ci := 4) (C := RX4) (U := TX4) (N := 8) hx hb hts kX4_costBelow_iX4 hown hK hw 10 (by decide) rfl rfl 2 (by decide) 25 rfl (hts _ kX4_costBelow_f15) (fun _ h9 => h9) dX4_costBelow_1 ?_
  refine lv_iload_n hx hb dX4_costBelow_4 rfl (lv_at hl 2 rfl) ?_
  refine lv_bipush (v := (64 : Int32)) hx hb dX4_costBelow_5 (by decide) ?_
  refine lv_imul hx hb dX4_costBelow_7 ?_
  refine lv_iload_n hx hb dX4_costBelow_8 rfl (lv_at hl 1 rfl) ?_
  refine lv_bipush (v := (63 : Int32)) hx hb dX4_costBelow_9 (by decide) ?_
  refine lv_iand hx hb dX4_costBelow_11 ?_
  refine lv_iadd hx hb dX4_costBelow_12 ?_
  refine lv_topi (fun x1 ex1 => ?_)
  replace h := lt_get h x1 ex1
  have hi2 := (gin_some h).1
  replace h := (gin_some h).2
  refine r_iald hx hb hK hw 25 0 768 (by decide) rfl rfl rfl hi2 dX4_costBelow_13 ?_
  refine lv_aload_n hx hb dX4_costBelow_14 rfl (lv_at hl 0 rfl) ?_
  refine r_getR (ci := 4) (C := RX4) (U := TX4) (N := 8) hx hb hts kX4_costBelow_iX4 hown hK hw 10 (by decide) rfl rfl 3 (by decide) 26 rfl (hts _ kX4_costBelow_f19) (fun _ h9 => h9) dX4_costBelow_15 ?_
  refine lv_iload_n hx hb dX4_costBelow_18 rfl (lv_at hl 2 rfl) ?_
  refine lv_bipush (v := (64 : Int32)) hx hb dX4_costBelow_19 (by decide) ?_
  refine lv_imul hx hb dX4_costBelow_21 ?_
  refine lv_iload_n hx hb dX4_costBelow_22 rfl (lv_at hl 1 rfl) ?_
  refine lv_bipush (v := (6 : Int32)) hx hb dX4_costBelow_23 (by decide) ?_
  refine lv_ishr hx hb dX4_costBelow_25 ?_
  refine lv_bipush (v := (63 : Int32)) hx hb dX4_costBelow_26 (by decide) ?_
  refine lv_iand hx hb dX4_costBelow_28 ?_
  refine lv_iadd hx hb dX4_costBelow_29 ?_
  refine lv_topi (fun x3 ex3 => ?_)
  replace h := lt_get h x3 ex3
  have hi4 := (gin_some h).1
  replace h := (gin_some h).2
  refine r_iald hx hb hK hw 26 0 768 (by decide) rfl rfl rfl hi4 dX4_costBelow_30 ?_
  refine lv_iadd hx hb dX4_costBelow_31 ?_
  cases h
  exact r_iret C hw rfl (by decide) (by decide) dX4_costBelow_32
theorem mX4_costBelow (l : Launch) (D : va_G) (T : Nat → ClassId) (ad : Nat → Nat) (lg : Lg) (sz : Nat)   (v1 : Int32) (v2 : Int32) (sg : Sg) {ro : Int32} {so : Sg} (h : fX4_costBelow v1 v2 sg = some (ro, so)) : Met l yX4_costBelow wsX4_costBelow rmX4_costBelow (PreZ ZC D vwCl T (tysC T) ad sg lg true nwL [.ref (ad 10), .int v1, .int v2] sz) (QI ZC D vwCl T (tysC T) (va_A (zwd ZC T ad sg lg) sz) (fun z => ad = z) ro so lg) 0 0 (va_A (zwd ZC T ad sg lg) sz) :=
  metZ [.ref (ad 10), .int v1, .int v2] sz (by decide) rfl (Nat.le_of_ble_eq_true rfl) (fun p e s m below meth c ls C hw hl => tX4_costBelow_0 C v1 v2 sg _ _ _ hw hl h)
-- PeckYard$Orders.weighRest(II)V
def rmX9_weighRest : Room := { frames := 1, cells := 0, slots := 0, locals := 22 }
theorem kX9_weighRest_c71 : Cond.constant RX9 71 (1000000000) ∈ wsX9_weighRest := by decide +kernel
theorem kX9_weighRest_f21 : Cond.fieldLink RX9 21 "PeckYard$Orders" "rest" "[I" ∈ wsX9_weighRest := by decide +kernel
theorem kX9_weighRest_iX9 : ∀ w ∈ u_ws RX9 TX9 11, w ∈ wsX9_weighRest := by decide +kernel
theorem kX9_weighRest_f25 : Cond.fieldLink RX9 25 "PeckYard$Orders" "ways" "[I" ∈ wsX9_weighRest := by decide +kernel
theorem kX9_weighRest_f47 : Cond.fieldLink RX9 47 "PeckYard$Orders" "halves" "LPeckYard$Halves;" ∈ wsX9_weighRest := by decide +kernel
def fX9_weighRest_111  (v1 : Int32) (v3 : Int32) (v4 : Int32) (sg : Sg) : Option (Sg) :=
  gin v1 ((sg 99 63).toNatClampNeg) (lt (up2 sg 63 v1.toNatClampNeg v3) (fun sg2 => gin v1 ((sg2 99 64).toNatClampNeg) (lt (up2 sg2 64 v1.toNatClampNeg v4) (fun sg4 => some sg4))))
set_option maxHeartbeats 4000000 in
set_option maxRecDepth 100000 in
theorem tX9_weighRest_111 (C : Cx p s m args meth c cX9_weighRest 9 RX9 wsX9_weighRest none D vwCl (tysC T) A true nwL) {so : Sg}   : ∀ (v1 : Int32) (v3 : Int32) (v4 : Int32) (sg : Sg), ∀ (H : Heap) (locs : List Loc) (ls : Array Slot), WS ZC D vwCl T ad sg lg A s.heap H locs → lv_has ls 9 [(0, .ref (ad 4)), (1, .int v1), (3, .int v3), (4, .int v4)] → fX9_weighRest_111 v1 v3 v4 sg = some so → W p l e rmX9_weighRest s m args below meth c H locs 0 0 (MQ below (QV ZC D vwCl T (tysC T) A (fun z => ad = z) so lg) args s 0 0 A) (F0 m 111 ls []) := by
  obtain ⟨⟨hx, hb, hml, hown, hts⟩, hr, hlk, hK, hA, hsp⟩ := id C
  intro v1 v3 v4 sg H locs ls hw hl h
  unfold fX9_weighRest_111 at h
  refine lv_aload_n hx hb dX9_weighRest_111 rfl (lv_at hl 0 rfl) ?_
  refine r_getR (ci := 9) (C := RX9) (U := TX9) (N := 11) hx hb hts kX9_weighRest_iX9 hown hK hw 4 (by decide) rfl rfl 6 (by decide) 63 rfl (hts _ kX9_weighRest_f21) (fun _ h9 => h9) dX9_weighRest_112 ?_
  refine lv_iload_n hx hb dX9_weighRest_115 rfl (lv_at hl 1 rfl) ?_
  refine lv_iload_n hx hb dX9_weighRest_116 rfl (lv_at hl 2 rfl) ?_
  have hi1 := (gin_some h).1
  replace h := (gin_some h).2
  refine r_iast ZC_ok hx hb hK hw 63 0 ((sg 99 63).toNatClampNeg) (by decide) rfl rfl rfl hi1 dX9_weighRest_117 (fun H locs sg2 esg2 hw => ?_)
  replace h := lt_get h sg2 esg2
  refine lv_aload_n hx hb dX9_weighRest_118 rfl (lv_at hl 0 rfl) ?_
  refine r_getR (ci := 9) (C := RX9) (U := TX9) (N := 11) hx hb hts kX9_weighRest_iX9 hown hK hw 4 (by decide) rfl rfl 7 (by decide) 64 rfl (hts _ kX9_weighRest_f25) (fun _ h9 => h9) dX9_weighRest_119 ?_
  refine lv_iload_n hx hb dX9_weighRest_122 rfl (lv_at hl 1 rfl) ?_
  refine lv_iload hx hb dX9_weighRest_123 (lv_at hl 3 rfl) ?_
  have hi3 := (gin_some h).1
  replace h := (gin_some h).2
  refine r_iast ZC_ok hx hb hK hw 64 0 ((sg2 99 64).toNatClampNeg) (by decide) rfl rfl rfl hi3 dX9_weighRest_125 (fun H locs sg4 esg4 hw => ?_)
  replace h := lt_get h sg4 esg4
  cases h
  exact r_vret C hw rfl (by decide) (by decide) dX9_weighRest_126
def fX9_weighRest_99 (r12 : (Int32 × Int32 × Int32 × Int32 × Int32 × Sg) → Option (Sg)) (v1 : Int32) (v3 : Int32) (v4 : Int32) (v5 : Int32) (v6 : Int32) (sg : Sg) : Option (Sg) :=
  lt (v5 + (1 : Int32)) (fun x1 => lt (v6 >>> ((1 : Int32) &&& 31)) (fun x2 => r12 (v1, v3, v4, x1, x2, sg)))
set_option maxHeartbeats 4000000 in
set_option maxRecDepth 100000 in
theorem tX9_weighRest_99 (C : Cx p s m args meth c cX9_weighRest 9 RX9 wsX9_weighRest none D vwCl (tysC T) A true nwL) {so : Sg} {r12 : (Int32 × Int32 × Int32 × Int32 × Int32 × Sg) → Option (Sg)} (hr12 : ∀ (v1 : Int32) (v3 : Int32) (v4 : Int32) (v5 : Int32) (v6 : Int32) (sg : Sg), r12 (v1, v3, v4, v5, v6, sg) = some so → ∀ (H : Heap) (locs : List Loc) (ls : Array Slot), WS ZC D vwCl T ad sg lg A s.heap H locs → lv_has ls 9 [(0, .ref (ad 4)), (1, .int v1), (3, .int v3), (4, .int v4), (5, .int v5), (6, .int v6)] → W p l e rmX9_weighRest s m args below meth c H locs 0 0 (MQ below (QV ZC D vwCl T (tysC T) A (fun z => ad = z) so lg) args s 0 0 A) (F0 m 12 ls [])) : ∀ (v1 : Int32) (v3 : Int32) (v4 : Int32) (v5 : Int32) (v6 : Int32) (sg : Sg), ∀ (H : Heap) (locs : List Loc) (ls : Array Slot), WS ZC D vwCl T ad sg lg A s.heap H locs → lv_has ls 9 [(0, .ref (ad 4)), (1, .int v1), (3, .int v3), (4, .int v4), (5, .int v5), (6, .int v6)] → fX9_weighRest_99 r12 v1 v3 v4 v5 v6 sg = some so → W p l e rmX9_weighRest s m args below meth c H locs 0 0 (MQ below (QV ZC D vwCl T (tysC T) A (fun z => ad = z) so lg) args s 0 0 A) (F0 m 99 ls []) := by
  obtain ⟨⟨hx, hb, hml, hown, hts⟩, hr, hlk, hK, hA, hsp⟩ := id C
  intro v1 v3 v4 v5 v6 sg H locs ls hw hl h
  unfold fX9_weighRest_99 at h
  obtain ⟨x1, ex1⟩ : ∃ z : Int32, z = (v5 + (1 : Int32)) := ⟨_, rfl⟩
  replace h := lt_get h x1 ex1
  refine lv_iinc (v := x1) (lv' := [(5, .int x1), (0, .ref (ad 4)), (1, .int v1), (3, .int v3), (4, .int v4), (6, .int v6)]) hx hb dX9_weighRest_99 hl (k := 4) rfl (by rw [ex1]; rfl) (by decide) rfl (fun ls hl => ?_)
  refine lv_iload hx hb dX9_weighRest_102 (lv_at hl 5 rfl) ?_
  refine lv_iconst (v := (1 : Int32)) hx hb dX9_weighRest_104 (by decide) ?_
  refine lv_ishr hx hb dX9_weighRest_105 ?_
  refine lv_topi (fun x2 ex2 => ?_)
  replace h := lt_get h x2 ex2
  refine lv_istore (lv' := [(6, .int x2), (5, .int x1), (0, .ref (ad 4)), (1, .int v1), (3, .int v3), (4, .int v4)]) hx hb dX9_weighRest_106 hl (by decide) rfl (fun ls hl => ?_)
  refine lv_goto (tgt := 12) hx hb dX9_weighRest_108 (by decide) ?_
  exact hr12 v1 v3 v4 x1 x2 sg h _ _ _ hw (lv_sub hl [2, 3, 4, 5, 1, 0] rfl)
def fX9_weighRest_12 (r12 : (Int32 × Int32 × Int32 × Int32 × Int32 × Sg) → Option (Sg)) (v1 : Int32) (v3 : Int32) (v4 : Int32) (v5 : Int32) (v6 : Int32) (sg : Sg) : Option (Sg) :=
  (if (12 : Int32) ≤ v5 then fX9_weighRest_111 v1 v3 v4 sg else (if v6 = 0 then fX9_weighRest_111 v1 v3 v4 sg else (if (v6 &&& (1 : Int32)) = (1 : Int32) then lt (v1 ||| ((1 : Int32) <<< (v5 &&& 31))) (fun x4 => gin x4 ((sg 99 63).toNatClampNeg) (bnd2 (fX4_costBelow v1 v5 sg) (fun y6 sg7 => lt ((sg 63 x4.toNatClampNeg) + y6) (fun x9 => (if v3 ≤ x9 then (if x9 = v3 then gin x4 ((sg7 99 64).toNatClampNeg) (lt (v4 + (sg7 64 x4.toNatClampNeg)) (fun x13 => fX9_weighRest_99 r12 v1 v3 x13 v5 v6 sg7)) else fX9_weighRest_99 r12 v1 v3 v4 v5 v6 sg7) else gin x4 ((sg7 99 64).toNatClampNeg) (lt (sg7 64 x4.toNatClampNeg) (fun x15 => fX9_weighRest_99 r12 v1 x9 x15 v5 v6 sg7))))))) else fX9_weighRest_99 r12 v1 v3 v4 v5 v6 sg)))
set_option maxHeartbeats 4000000 in
set_option maxRecDepth 100000 in
theorem tX9_weighRest_12 (C : Cx p s m args meth c cX9_weighRest 9 RX9 wsX9_weighRest none D vwCl (tysC T) A true nwL) {so : Sg} {r12 : (Int32 × Int32 × Int32 × Int32 × Int32 × Sg) → Option (Sg)} (hr12 : ∀ (v1 : Int32) (v3 : Int32) (v4 : Int32) (v5 : Int32) (v6 : Int32) (sg : Sg), r12 (v1, v3, v4, v5, v6, sg) = some so → ∀ (H : Heap) (locs : List Loc) (ls : Array Slot), WS ZC D vwCl T ad sg lg A s.heap H locs → lv_has ls 9 [(0, .ref (ad 4)), (1, .int v1), (3, .int v3), (4, .int v4), (5, .int v5), (6, .int v6)] → W p l e rmX9_weighRest s m args below meth c H locs 0 0 (MQ below (QV ZC D vwCl T (tysC T) A (fun z => ad = z) so lg) args s 0 0 A) (F0 m 12 ls [])) : ∀ (v1 : Int32) (v3 : Int32) (v4 : Int32) (v5 : Int32) (v6 : Int32) (sg : Sg), ∀ (H : Heap) (locs : List Loc) (ls : Array Slot), WS ZC D vwCl T ad sg lg A s.heap H locs → lv_has ls 9 [(0, .ref (ad 4)), (1, .int v1), (3, .int v3), (4, .int v4), (5, .int v5), (6, .int v6)] → fX9_weighRest_12 r12 v1 v3 v4 v5 v6 sg = some so → W p l e rmX9_weighRest s m args below meth c H locs 0 0 (MQ below (QV ZC D vwCl T (tysC T) A (fun z => ad = z) so lg) args s 0 0 A) (F0 m 12 ls []) := by
  obtain ⟨⟨hx, hb, hml, hown, hts⟩, hr, hlk, hK, hA, hsp⟩ := id C
  intro v1 v3 v4 v5 v6 sg H locs ls hw hl h
  unfold fX9_weighRest_12 at h
  refine lv_iload hx hb dX9_weighRest_12 (lv_at hl 4 rfl) ?_
  refine lv_bipush (v := (12 : Int32)) hx hb dX9_weighRest_14 (by decide) ?_
  refine lv_icmp_ge (tgt := 111) hx hb dX9_weighRest_16 (by decide) (fun c1 => ?_) (fun c1 => ?_)
  · replace h := ite_t h c1
    exact tX9_weighRest_111 C v1 v3 v4 sg _ _ _ hw (lv_sub hl [0, 1, 2, 3] rfl) h
  · replace h := ite_f h c1
    refine lv_iload hx hb dX9_weighRest_19 (lv_at hl 5 rfl) ?_
    refine lv_if_eq (tgt := 111) hx hb dX9_weighRest_21 (by decide) (fun c2 => ?_) (fun c2 => ?_)
    · replace h := ite_t h c2
      exact tX9_weighRest_111 C v1 v3 v4 sg _ _ _ hw (lv_sub hl [0, 1, 2, 3] rfl) h
    · replace h := ite_f h c2
      refine lv_iload hx hb dX9_weighRest_24 (lv_at hl 5 rfl) ?_
      refine lv_iconst (v := (1 : Int32)) hx hb dX9_weighRest_26 (by decide) ?_
      refine lv_iand hx hb dX9_weighRest_27 ?_
      refine lv_iconst (v := (1 : Int32)) hx hb dX9_weighRest_28 (by decide) ?_
      refine lv_icmp_ne (tgt := 99) hx hb dX9_weighRest_29 (by decide) (fun c3 => ?_) (fun c3 => ?_)
      · replace h := ite_f h c3
        exact tX9_weighRest_99 C hr12 v1 v3 v4 v5 v6 sg _ _ _ hw (lv_sub hl [0, 1, 2, 3, 4, 5] rfl) h
      · replace h := ite_t h c3
        refine lv_iload_n hx hb dX9_weighRest_32 rfl (lv_at hl 1 rfl) ?_
        refine lv_iconst (v := (1 : Int32)) hx hb dX9_weighRest_33 (by decide) ?_
        refine lv_iload hx hb dX9_weighRest_34 (lv_at hl 4 rfl) ?_
        refine lv_ishl hx hb dX9_weighRest_36 ?_
        refine lv_ior hx hb dX9_weighRest_37 ?_
        refine lv_topi (fun x4 ex4 => ?_)
        replace h := lt_get h x4 ex4
        refine lv_istore (lv' := [(7, .int x4), (0, .ref (ad 4)), (1, .int v1), (3, .int v3), (4, .int v4), (5, .int v5), (6, .int v6)]) hx hb dX9_weighRest_38 hl (by decide) rfl (fun ls hl => ?_)
        refine lv_aload_n hx hb dX9_weighRest_40 rfl (lv_at hl 1 rfl) ?_
        refine r_getR (ci := 9) (C := RX9) (U := TX9) (N := 11) hx hb hts kX9_weighRest_iX9 hown hK hw 4 (by decide) rfl rfl 6 (by decide) 63 rfl (hts _ kX9_weighRest_f21) (fun _ h9 => h9) dX9_weighRest_41 ?_
        refine lv_iload hx hb dX9_weighRest_44 (lv_at hl 0 rfl) ?_
        have hi5 := (gin_some h).1
        replace h := (gin_some h).2
        refine r_iald hx hb hK hw 63 0 ((sg 99 63).toNatClampNeg) (by decide) rfl rfl rfl hi5 dX9_weighRest_46 ?_
        refine lv_aload_n hx hb dX9_weighRest_47 rfl (lv_at hl 1 rfl) ?_
        refine r_getR (ci := 9) (C := RX9) (U := TX9) (N := 11) hx hb hts kX9_weighRest_iX9 hown hK hw 4 (by decide) rfl rfl 1 (by decide) 10 rfl (hts _ kX9_weighRest_f47) (fun _ h9 => h9) dX9_weighRest_48 ?_
        refine lv_iload_n hx hb dX9_weighRest_51 rfl (lv_at hl 2 rfl) ?_
        refine lv_iload hx hb dX9_weighRest_52 (lv_at hl 5 rfl) ?_
        obtain ⟨y6, sg7, hq8, h2⟩ := bnd2_some h
        replace h := h2
        clear h2
        refine r_cVi (As := [.int v1, .int v5]) (rest := [.int (sg 63 x4.toNatClampNeg)]) C hw 10 (by decide) (ci := 4) rfl rfl (mX4_costBelow l D T ad lg H.size v1 v5 sg hq8) (cwV 2 hts gX9_weighRest_X4_costBelow rfl rfl rfl (by decide +kernel) ⟨Nat.le_of_ble_eq_true rfl, Nat.le_of_ble_eq_true rfl⟩) rfl hl.1 rfl (Nat.le_of_ble_eq_true rfl) dX9_weighRest_54 ⟨Nat.le_of_ble_eq_true rfl, Nat.le_of_ble_eq_true rfl⟩ (fun ad' H locs hp hw => ?_)
        subst hp
        refine W.widen (k := 0) (n := 0) (by decide) (by decide) ?_
        refine lv_iadd hx hb dX9_weighRest_57 ?_
        refine lv_topi (fun x9 ex9 => ?_)
        replace h := lt_get h x9 ex9
        refine lv_istore (lv' := [(8, .int x9), (7, .int x4), (0, .ref (ad 4)), (1, .int v1), (3, .int v3), (4, .int v4), (5, .int v5), (6, .int v6)]) hx hb dX9_weighRest_58 hl (by decide) rfl (fun ls hl => ?_)
        refine lv_iload hx hb dX9_weighRest_60 (lv_at hl 0 rfl) ?_
        refine lv_iload_n hx hb dX9_weighRest_62 rfl (lv_at hl 4 rfl) ?_
        refine lv_icmp_ge (tgt := 81) hx hb dX9_weighRest_63 (by decide) (fun c10 => ?_) (fun c10 => ?_)
        · replace h := ite_t h c10
          refine lv_iload hx hb dX9_weighRest_81 (lv_at hl 0 rfl) ?_
          refine lv_iload_n hx hb dX9_weighRest_83 rfl (lv_at hl 4 rfl) ?_
          refine lv_icmp_ne (tgt := 99) hx hb dX9_weighRest_84 (by decide) (fun c11 => ?_) (fun c11 => ?_)
          · replace h := ite_f h c11
            exact tX9_weighRest_99 C hr12 v1 v3 v4 v5 v6 sg7 _ _ _ hw (lv_sub hl [2, 3, 4, 5, 6, 7] rfl) h
          · replace h := ite_t h c11
            refine lv_iload hx hb dX9_weighRest_87 (lv_at hl 5 rfl) ?_
            refine lv_aload_n hx hb dX9_weighRest_89 rfl (lv_at hl 2 rfl) ?_
            refine r_getR (ci := 9) (C := RX9) (U := TX9) (N := 11) hx hb hts kX9_weighRest_iX9 hown hK hw 4 (by decide) rfl rfl 7 (by decide) 64 rfl (hts _ kX9_weighRest_f25) (fun _ h9 => h9) dX9_weighRest_90 ?_
            refine lv_iload hx hb dX9_weighRest_93 (lv_at hl 1 rfl) ?_
            have hi12 := (gin_some h).1
            replace h := (gin_some h).2
            refine r_iald hx hb hK hw 64 0 ((sg7 99 64).toNatClampNeg) (by decide) rfl rfl rfl hi12 dX9_weighRest_95 ?_
            refine lv_iadd hx hb dX9_weighRest_96 ?_
            refine lv_topi (fun x13 ex13 => ?_)
            replace h := lt_get h x13 ex13
            refine lv_istore (lv' := [(4, .int x13), (8, .int x9), (7, .int x4), (0, .ref (ad 4)), (1, .int v1), (3, .int v3), (5, .int v5), (6, .int v6)]) hx hb dX9_weighRest_97 hl (by decide) rfl (fun ls hl => ?_)
            exact tX9_weighRest_99 C hr12 v1 v3 x13 v5 v6 sg7 _ _ _ hw (lv_sub hl [3, 4, 5, 0, 6, 7] rfl) h
        · replace h := ite_f h c10
          refine lv_iload hx hb dX9_weighRest_66 (lv_at hl 0 rfl) ?_
          refine lv_istore_n (lv' := [(3, .int x9), (8, .int x9), (7, .int x4), (0, .ref (ad 4)), (1, .int v1), (4, .int v4), (5, .int v5), (6, .int v6)]) hx hb dX9_weighRest_68 rfl hl (by decide) rfl (fun ls hl => ?_)
          refine lv_aload_n hx hb dX9_weighRest_69 rfl (lv_at hl 3 rfl) ?_
          refine r_getR (ci := 9) (C := RX9) (U := TX9) (N := 11) hx hb hts kX9_weighRest_iX9 hown hK hw 4 (by decide) rfl rfl 7 (by decide) 64 rfl (hts _ kX9_weighRest_f25) (fun _ h9 => h9) dX9_weighRest_70 ?_
          refine lv_iload hx hb dX9_weighRest_73 (lv_at hl 2 rfl) ?_
          have hi14 := (gin_some h).1
          replace h := (gin_some h).2
          refine r_iald hx hb hK hw 64 0 ((sg7 99 64).toNatClampNeg) (by decide) rfl rfl rfl hi14 dX9_weighRest_75 ?_
          refine lv_topi (fun x15 ex15 => ?_)
          replace h := lt_get h x15 ex15
          refine lv_istore (lv' := [(4, .int x15), (3, .int x9), (8, .int x9), (7, .int x4), (0, .ref (ad 4)), (1, .int v1), (5, .int v5), (6, .int v6)]) hx hb dX9_weighRest_76 hl (by decide) rfl (fun ls hl => ?_)
          refine lv_goto (tgt := 99) hx hb dX9_weighRest_78 (by decide) ?_
          exact tX9_weighRest_99 C hr12 v1 x9 x15 v5 v6 sg7 _ _ _ hw (lv_sub hl [4, 5, 1, 0, 6, 7] rfl) h
def LX9_weighRest_12  : (Int32 × Int32 × Int32 × Int32 × Int32 × Sg) → Option (Sg) := loop (fun rec z => fX9_weighRest_12 rec z.1 z.2.1 z.2.2.1 z.2.2.2.1 z.2.2.2.2.1 z.2.2.2.2.2)
theorem TX9_weighRest_12 (C : Cx p s m args meth c cX9_weighRest 9 RX9 wsX9_weighRest none D vwCl (tysC T) A true nwL) {so : Sg}   : ∀ (v1 : Int32) (v3 : Int32) (v4 : Int32) (v5 : Int32) (v6 : Int32) (sg : Sg), LX9_weighRest_12 (v1, v3, v4, v5, v6, sg) = some so → ∀ (H : Heap) (locs : List Loc) (ls : Array Slot), WS ZC D vwCl T ad sg lg A s.heap H locs → lv_has ls 9 [(0, .ref (ad 4)), (1, .int v1), (3, .int v3), (4, .int v4), (5, .int v5), (6, .int v6)] → W p l e rmX9_weighRest s m args below meth c H locs 0 0 (MQ below (QV ZC D vwCl T (tysC T) A (fun z => ad = z) so lg) args s 0 0 A) (F0 m 12 ls []) := by
  have key : ∀ z : (Int32 × Int32 × Int32 × Int32 × Int32 × Sg), LX9_weighRest_12  z = some so → ∀ (H : Heap) (locs : List Loc) (ls : Array Slot), WS ZC D vwCl T ad z.2.2.2.2.2 lg A s.heap H locs → lv_has ls 9 [(0, .ref (ad 4)), (1, .int z.1), (3, .int z.2.1), (4, .int z.2.2.1), (5, .int z.2.2.2.1), (6, .int z.2.2.2.2.1)] → W p l e rmX9_weighRest s m args below meth c H locs 0 0 (MQ below (QV ZC D vwCl T (tysC T) A (fun z => ad = z) so lg) args s 0 0 A) (F0 m 12 ls []) := by
    intro z h
    unfold LX9_weighRest_12 at h
    exact loop_ind (fun rec z => fX9_weighRest_12 rec z.1 z.2.1 z.2.2.1 z.2.2.2.1 z.2.2.2.2.1 z.2.2.2.2.2) (y := so) (P := fun z => ∀ (H : Heap) (locs : List Loc) (ls : Array Slot), WS ZC D vwCl T ad z.2.2.2.2.2 lg A s.heap H locs → lv_has ls 9 [(0, .ref (ad 4)), (1, .int z.1), (3, .int z.2.1), (4, .int z.2.2.1), (5, .int z.2.2.2.1), (6, .int z.2.2.2.2.1)] → W p l e rmX9_weighRest s m args below meth c H locs 0 0 (MQ below (QV ZC D vwCl T (tysC T) A (fun z => ad = z) so lg) args s 0 0 A) (F0 m 12 ls [])) (fun rec hrec z h H locs ls hw hl => tX9_weighRest_12 C  (fun v1 v3 v4 v5 v6 sg => hrec (v1, v3, v4, v5, v6, sg)) z.1 z.2.1 z.2.2.1 z.2.2.2.1 z.2.2.2.2.1 z.2.2.2.2.2 H locs ls hw hl h) z h
  exact fun v1 v3 v4 v5 v6 sg => key (v1, v3, v4, v5, v6, sg)
def fX9_weighRest  (v1 : Int32) (v2 : Int32) (sg : Sg) : Option (Sg) :=
  LX9_weighRest_12 (v1, (1000000000 : Int32), (0 : Int32), (0 : Int32), v2, sg)
set_option maxHeartbeats 4000000 in
set_option maxRecDepth 100000 in
theorem tX9_weighRest_0 (C : Cx p s m args meth c cX9_weighRest 9 RX9 wsX9_weighRest none D vwCl (tysC T) A true nwL) {so : Sg}   : ∀ (v1 : Int32) (v2 : Int32) (sg : Sg), ∀ (H : Heap) (locs : List Loc) (ls : Array Slot), WS ZC D vwCl T ad sg lg A s.heap H locs → lv_has ls 9 [(0, .ref (ad 4)), (1, .int v1), (2, .int v2)] → fX9_weighRest v1 v2 sg = some so → W p l e rmX9_weighRest s m args below meth c H locs 0 0 (MQ below (QV ZC D vwCl T (tysC T) A (fun z => ad = z) so lg) args s 0 0 A) (F0 m 0 ls []) := by
  obtain ⟨⟨hx, hb, hml, hown, hts⟩, hr, hlk, hK, hA, hsp⟩ := id C
  intro v1 v2 sg H locs ls hw hl h
  unfold fX9_weighRest at h
  refine lv_ldc hx hb hown (hts _ kX9_weighRest_c71) dX9_weighRest_0 ?_
  refine lv_istore_n (lv' := [(3, .int (1000000000 : Int32)), (0, .ref (ad 4)), (1, .int v1), (2, .int v2)]) hx hb dX9_weighRest_2 rfl hl (by decide) rfl (fun ls hl => ?_)
  refine lv_iconst (v := (0 : Int32)) hx hb dX9_weighRest_3 (by decide) ?_
  refine lv_istore (lv' := [(4, .int (0 : Int32)), (3, .int (1000000000 : Int32)), (0, .ref (ad 4)), (1, .int v1), (2, .int v2)]) hx hb dX9_weighRest_4 hl (by decide) rfl (fun ls hl => ?_)
  refine lv_iconst (v := (0 : Int32)) hx hb dX9_weighRest_6 (by decide) ?_
  refine lv_istore (lv' := [(5, .int (0 : Int32)), (4, .int (0 : Int32)), (3, .int (1000000000 : Int32)), (0, .ref (ad 4)), (1, .int v1), (2, .int v2)]) hx hb dX9_weighRest_7 hl (by decide) rfl (fun ls hl => ?_)
  refine lv_iload_n hx hb dX9_weighRest_9 rfl (lv_at hl 5 rfl) ?_
  refine lv_istore (lv' := [(6, .int v2), (5, .int (0 : Int32)), (4, .int (0 : Int32)), (3, .int (1000000000 : Int32)), (0, .ref (ad 4)), (1, .int v1), (2, .int v2)]) hx hb dX9_weighRest_10 hl (by decide) rfl (fun ls hl => ?_)
  exact TX9_weighRest_12 C v1 (1000000000 : Int32) (0 : Int32) (0 : Int32) v2 sg h _ _ _ hw (lv_sub hl [4, 5, 3, 2, 1, 0] rfl)
theorem mX9_weighRest (l : Launch) (D : va_G) (T : Nat → ClassId) (ad : Nat → Nat) (lg : Lg) (sz : Nat)   (v1 : Int32) (v2 : Int32) (sg : Sg) {so : Sg} (h : fX9_weighRest v1 v2 sg = some so) : Met l yX9_weighRest wsX9_weighRest rmX9_weighRest (PreZ ZC D vwCl T (tysC T) ad sg lg true nwL [.ref (ad 4), .int v1, .int v2] sz) (QV ZC D vwCl T (tysC T) (va_A (zwd ZC T ad sg lg) sz) (fun z => ad = z) so lg) 0 0 (va_A (zwd ZC T ad sg lg) sz) :=
  metZ [.ref (ad 4), .int v1, .int v2] sz (by decide) rfl (Nat.le_of_ble_eq_true rfl) (fun p e s m below meth c ls C hw hl => tX9_weighRest_0 C v1 v2 sg _ _ _ hw hl h)
-- PeckYard$Orders.solve()V
def rmX9_solve : Room := { frames := 4, cells := 2, slots := 8192, locals := 88 }
theorem kX9_solve_f47 : Cond.fieldLink RX9 47 "PeckYard$Orders" "halves" "LPeckYard$Halves;" ∈ wsX9_solve := by decide +kernel
theorem kX9_solve_iX9 : ∀ w ∈ u_ws RX9 TX9 11, w ∈ wsX9_solve := by decide +kernel
theorem kX9_solve_f9 : Cond.fieldLink RX9 9 "PeckYard$Orders" "solvedAt" "I" ∈ wsX9_solve := by decide +kernel
theorem kX9_solve_f38 : Cond.fieldLink RX9 38 "PeckYard$Orders" "muster" "LPeckYard$Muster;" ∈ wsX9_solve := by decide +kernel
theorem kX9_solve_f54 : Cond.fieldLink RX9 54 "PeckYard$Muster" "stamp" "I" ∈ wsX9_solve := by decide +kernel
theorem kX9_solve_iX8 : ∀ w ∈ u_ws RX8 TX8 10, w ∈ wsX9_solve := by decide +kernel
theorem kX9_solve_f21 : Cond.fieldLink RX9 21 "PeckYard$Orders" "rest" "[I" ∈ wsX9_solve := by decide +kernel
theorem kX9_solve_f25 : Cond.fieldLink RX9 25 "PeckYard$Orders" "ways" "[I" ∈ wsX9_solve := by decide +kernel
theorem kX9_solve_arI : Cond.arrayClass .int ∈ wsX9_solve := by decide +kernel
def fX9_solve_86 (r86 : (Int32 × Sg) → Option (Sg)) (v2 : Int32) (sg : Sg) : Option (Sg) :=
  (if v2 < 0 then some sg else bnd2 (fX9_choices v2 sg) (fun y2 sg3 => bnd1 (fX9_weighRest v2 y2 sg3) (fun sg5 => lt (v2 + (-1 : Int32)) (fun x7 => r86 (x7, sg5)))))
set_option maxHeartbeats 4000000 in
set_option maxRecDepth 100000 in
theorem tX9_solve_86 (C : Cx p s m args meth c cX9_solve 3 RX9 wsX9_solve none D vwCl (tysC T) A true nwL) {so : Sg} {r86 : (Int32 × Sg) → Option (Sg)} (hr86 : ∀ (v2 : Int32) (sg : Sg), r86 (v2, sg) = some so → ∀ (g : Nat → Nat) (H : Heap) (locs : List Loc) (ls : Array Slot), WS ZC D vwCl T (adr a g) sg lg A s.heap H locs → lv_has ls 3 [(0, .ref ((adr a g) 4)), (2, .int v2)] → W p l e rmX9_solve s m args below meth c H locs 2 8192 (MQ below (QV ZC D vwCl T (tysC T) A (fun z => ∃ g' : Nat → Nat, z = adr a g') so lg) args s 2 8192 A) (F0 m 86 ls [])) : ∀ (v2 : Int32) (sg : Sg), ∀ (g : Nat → Nat) (H : Heap) (locs : List Loc) (ls : Array Slot), WS ZC D vwCl T (adr a g) sg lg A s.heap H locs → lv_has ls 3 [(0, .ref ((adr a g) 4)), (2, .int v2)] → fX9_solve_86 r86 v2 sg = some so → W p l e rmX9_solve s m args below meth c H locs 2 8192 (MQ below (QV ZC D vwCl T (tysC T) A (fun z => ∃ g' : Nat → Nat, z = adr a g') so lg) args s 2 8192 A) (F0 m 86 ls []) := by
  obtain ⟨⟨hx, hb, hml, hown, hts⟩, hr, hlk, hK, hA, hsp⟩ := id C
  intro v2 sg g H locs ls hw hl h
  unfold fX9_solve_86 at h
  refine lv_iload_n hx hb dX9_solve_86 rfl (lv_at hl 1 rfl) ?_
  refine lv_if_lt (tgt := 106) hx hb dX9_solve_87 (by decide) (fun c1 => ?_) (fun c1 => ?_)
  · replace h := ite_t h c1
    cases h
    exact r_vret C hw ⟨_, rfl⟩ (by decide) (by decide) dX9_solve_106
  · replace h := ite_f h c1
    refine lv_aload_n hx hb dX9_solve_90 rfl (lv_at hl 0 rfl) ?_
    refine lv_iload_n hx hb dX9_solve_91 rfl (lv_at hl 1 rfl) ?_
    refine lv_aload_n hx hb dX9_solve_92 rfl (lv_at hl 0 rfl) ?_
    refine lv_iload_n hx hb dX9_solve_93 rfl (lv_at hl 1 rfl) ?_
    obtain ⟨y2, sg3, hq4, h2⟩ := bnd2_some h
    replace h := h2
    clear h2
    refine r_cVi (As := [.int v2]) (rest := [.int v2, .ref ((adr a g) 4)]) C hw 4 (by decide) (ci := 9) rfl rfl (mX9_choices l D T (adr a g) lg H.size v2 sg hq4) (cwV 1 hts gX9_solve_X9_choices rfl rfl rfl (by decide +kernel) ⟨Nat.le_of_ble_eq_true rfl, Nat.le_of_ble_eq_true rfl⟩) rfl hl.1 rfl (Nat.le_of_ble_eq_true rfl) dX9_solve_94 ⟨Nat.le_of_ble_eq_true rfl, Nat.le_of_ble_eq_true rfl⟩ (fun ad' H locs hp hw => ?_)
    subst hp
    refine W.widen (k := 2) (n := 8192) (by decide) (by decide) ?_
    obtain ⟨sg5, hq6, h2⟩ := bnd1_some h
    replace h := h2
    clear h2
    refine r_cVv (As := [.int v2, .int y2]) (rest := []) C hw 4 (by decide) (ci := 9) rfl rfl (mX9_weighRest l D T (adr a g) lg H.size v2 y2 sg3 hq6) (cwV 2 hts gX9_solve_X9_weighRest rfl rfl rfl (by decide +kernel) ⟨Nat.le_of_ble_eq_true rfl, Nat.le_of_ble_eq_true rfl⟩) rfl hl.1 rfl (Nat.le_of_ble_eq_true rfl) dX9_solve_97 ⟨Nat.le_of_ble_eq_true rfl, Nat.le_of_ble_eq_true rfl⟩ (fun ad' H locs hp hw => ?_)
    subst hp
    refine W.widen (k := 2) (n := 8192) (by decide) (by decide) ?_
    obtain ⟨x7, ex7⟩ : ∃ z : Int32, z = (v2 + (-1 : Int32)) := ⟨_, rfl⟩
    replace h := lt_get h x7 ex7
    refine lv_iinc (v := x7) (lv' := [(2, .int x7), (0, .ref ((adr a g) 4))]) hx hb dX9_solve_100 hl (k := 1) rfl (by rw [ex7]; rfl) (by decide) rfl (fun ls hl => ?_)
    refine lv_goto (tgt := 86) hx hb dX9_solve_103 (by decide) ?_
    exact hr86 x7 sg5 h g _ _ _ hw (lv_sub hl [1, 0] rfl)
def LX9_solve_86  : (Int32 × Sg) → Option (Sg) := loop (fun rec z => fX9_solve_86 rec z.1 z.2)
theorem TX9_solve_86 (C : Cx p s m args meth c cX9_solve 3 RX9 wsX9_solve none D vwCl (tysC T) A true nwL) {so : Sg}   : ∀ (v2 : Int32) (sg : Sg), LX9_solve_86 (v2, sg) = some so → ∀ (g : Nat → Nat) (H : Heap) (locs : List Loc) (ls : Array Slot), WS ZC D vwCl T (adr a g) sg lg A s.heap H locs → lv_has ls 3 [(0, .ref ((adr a g) 4)), (2, .int v2)] → W p l e rmX9_solve s m args below meth c H locs 2 8192 (MQ below (QV ZC D vwCl T (tysC T) A (fun z => ∃ g' : Nat → Nat, z = adr a g') so lg) args s 2 8192 A) (F0 m 86 ls []) := by
  have key : ∀ z : (Int32 × Sg), LX9_solve_86  z = some so → ∀ (g : Nat → Nat) (H : Heap) (locs : List Loc) (ls : Array Slot), WS ZC D vwCl T (adr a g) z.2 lg A s.heap H locs → lv_has ls 3 [(0, .ref ((adr a g) 4)), (2, .int z.1)] → W p l e rmX9_solve s m args below meth c H locs 2 8192 (MQ below (QV ZC D vwCl T (tysC T) A (fun z => ∃ g' : Nat → Nat, z = adr a g') so lg) args s 2 8192 A) (F0 m 86 ls []) := by
    intro z h
    unfold LX9_solve_86 at h
    exact loop_ind (fun rec z => fX9_solve_86 rec z.1 z.2) (y := so) (P := fun z => ∀ (g : Nat → Nat) (H : Heap) (locs : List Loc) (ls : Array Slot), WS ZC D vwCl T (adr a g) z.2 lg A s.heap H locs → lv_has ls 3 [(0, .ref ((adr a g) 4)), (2, .int z.1)] → W p l e rmX9_solve s m args below meth c H locs 2 8192 (MQ below (QV ZC D vwCl T (tysC T) A (fun z => ∃ g' : Nat → Nat, z = adr a g') so lg) args s 2 8192 A) (F0 m 86 ls [])) (fun rec hrec z h g H locs ls hw hl => tX9_solve_86 C  (fun v2 sg => hrec (v2, sg)) z.1 z.2 g H locs ls hw hl h) z h
  exact fun v2 sg => key (v2, sg)
def fX9_solve_68  (v1 : Int32) (sg : Sg) : Option (Sg) :=
  gin v1 ((sg 99 63).toNatClampNeg) (lt (up2 sg 63 v1.toNatClampNeg (0 : Int32)) (fun sg2 => gin v1 ((sg2 99 64).toNatClampNeg) (lt (up2 sg2 64 v1.toNatClampNeg (1 : Int32)) (fun sg4 => lt (v1 - (1 : Int32)) (fun x5 => LX9_solve_86 (x5, sg4))))))
set_option maxHeartbeats 4000000 in
set_option maxRecDepth 100000 in
theorem tX9_solve_68 (C : Cx p s m args meth c cX9_solve 3 RX9 wsX9_solve none D vwCl (tysC T) A true nwL) {so : Sg}   : ∀ (v1 : Int32) (sg : Sg), ∀ (g : Nat → Nat) (H : Heap) (locs : List Loc) (ls : Array Slot), WS ZC D vwCl T (adr a g) sg lg A s.heap H locs → lv_has ls 3 [(0, .ref ((adr a g) 4)), (1, .int v1)] → fX9_solve_68 v1 sg = some so → W p l e rmX9_solve s m args below meth c H locs 2 8192 (MQ below (QV ZC D vwCl T (tysC T) A (fun z => ∃ g' : Nat → Nat, z = adr a g') so lg) args s 2 8192 A) (F0 m 68 ls []) := by
  obtain ⟨⟨hx, hb, hml, hown, hts⟩, hr, hlk, hK, hA, hsp⟩ := id C
  intro v1 sg g H locs ls hw hl h
  unfold fX9_solve_68 at h
  refine lv_aload_n hx hb dX9_solve_68 rfl (lv_at hl 0 rfl) ?_
  refine r_getR (ci := 9) (C := RX9) (U := TX9) (N := 11) hx hb hts kX9_solve_iX9 hown hK hw 4 (by decide) rfl rfl 6 (by decide) 63 rfl (hts _ kX9_solve_f21) (fun _ h9 => h9) dX9_solve_69 ?_
  refine lv_iload_n hx hb dX9_solve_72 rfl (lv_at hl 1 rfl) ?_
  refine lv_iconst (v := (0 : Int32)) hx hb dX9_solve_73 (by decide) ?_
  have hi1 := (gin_some h).1
  replace h := (gin_some h).2
  refine r_iast ZC_ok hx hb hK hw 63 0 ((sg 99 63).toNatClampNeg) (by decide) rfl rfl rfl hi1 dX9_solve_74 (fun H locs sg2 esg2 hw => ?_)
  replace h := lt_get h sg2 esg2
  refine lv_aload_n hx hb dX9_solve_75 rfl (lv_at hl 0 rfl) ?_
  refine r_getR (ci := 9) (C := RX9) (U := TX9) (N := 11) hx hb hts kX9_solve_iX9 hown hK hw 4 (by decide) rfl rfl 7 (by decide) 64 rfl (hts _ kX9_solve_f25) (fun _ h9 => h9) dX9_solve_76 ?_
  refine lv_iload_n hx hb dX9_solve_79 rfl (lv_at hl 1 rfl) ?_
  refine lv_iconst (v := (1 : Int32)) hx hb dX9_solve_80 (by decide) ?_
  have hi3 := (gin_some h).1
  replace h := (gin_some h).2
  refine r_iast ZC_ok hx hb hK hw 64 0 ((sg2 99 64).toNatClampNeg) (by decide) rfl rfl rfl hi3 dX9_solve_81 (fun H locs sg4 esg4 hw => ?_)
  replace h := lt_get h sg4 esg4
  refine lv_iload_n hx hb dX9_solve_82 rfl (lv_at hl 1 rfl) ?_
  refine lv_iconst (v := (1 : Int32)) hx hb dX9_solve_83 (by decide) ?_
  refine lv_isub hx hb dX9_solve_84 ?_
  refine lv_topi (fun x5 ex5 => ?_)
  replace h := lt_get h x5 ex5
  refine lv_istore_n (lv' := [(2, .int x5), (0, .ref ((adr a g) 4)), (1, .int v1)]) hx hb dX9_solve_85 rfl hl (by decide) rfl (fun ls hl => ?_)
  exact TX9_solve_86 C x5 sg4 h g _ _ _ hw (lv_sub hl [1, 0] rfl)
def fX9_solve  (sg : Sg) : Option (Sg) :=
  bnd1 (fX4_prepare sg) (fun sg1 => (if (sg1 4 2) = (sg1 3 1) then some sg1 else lt (sg1 3 1) (fun x4 => lt (up2 sg1 4 2 x4) (fun sg5 => bnd2 (fX8_all sg5) (fun y6 sg7 => (if y6 < (Int32.ofNat (sg7 99 63).toNatClampNeg) then fX9_solve_68 y6 sg7 else lt (y6 + (1 : Int32)) (fun x10 => gnw x10 (lt (nw2 sg7 63 x10) (fun sg12 => lt (y6 + (1 : Int32)) (fun x14 => gnw x14 (lt (nw2 sg12 64 x14) (fun sg16 => fX9_solve_68 y6 sg16))))))))))))
set_option maxHeartbeats 4000000 in
set_option maxRecDepth 100000 in
theorem tX9_solve_0 (C : Cx p s m args meth c cX9_solve 3 RX9 wsX9_solve none D vwCl (tysC T) A true nwL) {so : Sg}   : ∀ (sg : Sg), ∀ (g : Nat → Nat) (H : Heap) (locs : List Loc) (ls : Array Slot), WS ZC D vwCl T (adr a g) sg lg A s.heap H locs → lv_has ls 3 [(0, .ref ((adr a g) 4))] → fX9_solve sg = some so → W p l e rmX9_solve s m args below meth c H locs 0 0 (MQ below (QV ZC D vwCl T (tysC T) A (fun z => ∃ g' : Nat → Nat, z = adr a g') so lg) args s 2 8192 A) (F0 m 0 ls []) := by
  obtain ⟨⟨hx, hb, hml, hown, hts⟩, hr, hlk, hK, hA, hsp⟩ := id C
  intro sg g H locs ls hw hl h
  unfold fX9_solve at h
  refine lv_aload_n hx hb dX9_solve_0 rfl (lv_at hl 0 rfl) ?_
  refine r_getR (ci := 9) (C := RX9) (U := TX9) (N := 11) hx hb hts kX9_solve_iX9 hown hK hw 4 (by decide) rfl rfl 1 (by decide) 10 rfl (hts _ kX9_solve_f47) (fun _ h9 => h9) dX9_solve_1 ?_
  obtain ⟨sg1, hq2, h2⟩ := bnd1_some h
  replace h := h2
  clear h2
  refine r_cVv (As := []) (rest := []) C hw 10 (by decide) (ci := 4) rfl rfl (mX4_prepare l D T (adr a g) lg H.size sg hq2) (cwV 0 hts gX9_solve_X4_prepare rfl rfl rfl (by decide +kernel) ⟨Nat.le_of_ble_eq_true rfl, Nat.le_of_ble_eq_true rfl⟩) rfl hl.1 rfl (Nat.le_of_ble_eq_true rfl) dX9_solve_4 ⟨Nat.le_of_ble_eq_true rfl, Nat.le_of_ble_eq_true rfl⟩ (fun ad' H locs hp hw => ?_)
  subst hp
  refine W.widen (k := 0) (n := 0) (by decide) (by decide) ?_
  refine lv_aload_n hx hb dX9_solve_7 rfl (lv_at hl 0 rfl) ?_
  refine r_getI (ci := 9) (C := RX9) (U := TX9) (N := 11) hx hb hts kX9_solve_iX9 hown hK hw 4 (by decide) rfl rfl 2 (by decide) rfl (hts _ kX9_solve_f9) (fun _ h9 => h9) dX9_solve_8 ?_
  refine lv_aload_n hx hb dX9_solve_11 rfl (lv_at hl 0 rfl) ?_
  refine r_getR (ci := 9) (C := RX9) (U := TX9) (N := 11) hx hb hts kX9_solve_iX9 hown hK hw 4 (by decide) rfl rfl 0 (by decide) 3 rfl (hts _ kX9_solve_f38) (fun _ h9 => h9) dX9_solve_12 ?_
  refine r_getI (ci := 8) (C := RX8) (U := TX8) (N := 10) hx hb hts kX9_solve_iX8 hown hK hw 3 (by decide) rfl rfl 1 (by decide) rfl (hts _ kX9_solve_f54) (fun _ h9 => h9) dX9_solve_15 ?_
  refine lv_icmp_ne (tgt := 22) hx hb dX9_solve_18 (by decide) (fun c3 => ?_) (fun c3 => ?_)
  · replace h := ite_f h c3
    refine lv_aload_n hx hb dX9_solve_22 rfl (lv_at hl 0 rfl) ?_
    refine lv_aload_n hx hb dX9_solve_23 rfl (lv_at hl 0 rfl) ?_
    refine r_getR (ci := 9) (C := RX9) (U := TX9) (N := 11) hx hb hts kX9_solve_iX9 hown hK hw 4 (by decide) rfl rfl 0 (by decide) 3 rfl (hts _ kX9_solve_f38) (fun _ h9 => h9) dX9_solve_24 ?_
    refine r_getI (ci := 8) (C := RX8) (U := TX8) (N := 10) hx hb hts kX9_solve_iX8 hown hK hw 3 (by decide) rfl rfl 1 (by decide) rfl (hts _ kX9_solve_f54) (fun _ h9 => h9) dX9_solve_27 ?_
    refine lv_topi (fun x4 ex4 => ?_)
    replace h := lt_get h x4 ex4
    refine r_putI ZC_ok (ci := 9) (C := RX9) (U := TX9) (N := 11) (ty := .int) hx hb hts kX9_solve_iX9 tyX9 tyX9_ok nmX9 hown hK hw 4 (by decide) rfl rfl 2 (by decide) rfl (hts _ kX9_solve_f9) (fun _ h9 => h9) rfl (by decide +kernel) rfl rfl dX9_solve_30 (fun H locs sg5 esg5 hw => ?_)
    replace h := lt_get h sg5 esg5
    refine lv_aload_n hx hb dX9_solve_33 rfl (lv_at hl 0 rfl) ?_
    refine r_getR (ci := 9) (C := RX9) (U := TX9) (N := 11) hx hb hts kX9_solve_iX9 hown hK hw 4 (by decide) rfl rfl 0 (by decide) 3 rfl (hts _ kX9_solve_f38) (fun _ h9 => h9) dX9_solve_34 ?_
    obtain ⟨y6, sg7, hq8, h2⟩ := bnd2_some h
    replace h := h2
    clear h2
    refine r_cVi (As := []) (rest := []) C hw 3 (by decide) (ci := 8) rfl rfl (mX8_all l D T (adr a g) lg H.size sg5 hq8) (cwV 0 hts gX9_solve_X8_all rfl rfl rfl (by decide +kernel) ⟨Nat.le_of_ble_eq_true rfl, Nat.le_of_ble_eq_true rfl⟩) rfl hl.1 rfl (Nat.le_of_ble_eq_true rfl) dX9_solve_37 ⟨Nat.le_of_ble_eq_true rfl, Nat.le_of_ble_eq_true rfl⟩ (fun ad' H locs hp hw => ?_)
    subst hp
    refine W.widen (k := 0) (n := 0) (by decide) (by decide) ?_
    refine lv_istore_n (lv' := [(1, .int y6), (0, .ref ((adr a g) 4))]) hx hb dX9_solve_40 rfl hl (by decide) rfl (fun ls hl => ?_)
    refine lv_aload_n hx hb dX9_solve_41 rfl (lv_at hl 1 rfl) ?_
    refine r_getR (ci := 9) (C := RX9) (U := TX9) (N := 11) hx hb hts kX9_solve_iX9 hown hK hw 4 (by decide) rfl rfl 6 (by decide) 63 rfl (hts _ kX9_solve_f21) (fun _ h9 => h9) dX9_solve_42 ?_
    refine r_alen hx hb hK hw 63 0 ((sg7 99 63).toNatClampNeg) (by decide) 0 rfl (by decide) rfl rfl (v := (Int32.ofNat (sg7 99 63).toNatClampNeg)) rfl dX9_solve_45 ?_
    refine lv_iload_n hx hb dX9_solve_46 rfl (lv_at hl 0 rfl) ?_
    refine lv_icmp_gt (tgt := 68) hx hb dX9_solve_47 (by decide) (fun c9 => ?_) (fun c9 => ?_)
    · replace h := ite_t h c9
      refine W.widen (k := 2) (n := 8192) (by decide) (by decide) ?_
      exact tX9_solve_68 C y6 sg7 g _ _ _ hw (lv_sub hl [1, 0] rfl) h
    · replace h := ite_f h c9
      refine lv_aload_n hx hb dX9_solve_50 rfl (lv_at hl 1 rfl) ?_
      refine lv_iload_n hx hb dX9_solve_51 rfl (lv_at hl 0 rfl) ?_
      refine lv_iconst (v := (1 : Int32)) hx hb dX9_solve_52 (by decide) ?_
      refine lv_iadd hx hb dX9_solve_53 ?_
      refine lv_topi (fun x10 ex10 => ?_)
      replace h := lt_get h x10 ex10
      have hw11 := (gnw_some h).1
      replace h := (gnw_some h).2
      refine r_new63 hx hb hts kX9_solve_iX9 hown hK hw hA (hts _ kX9_solve_arI) hw11 (hts _ kX9_solve_f21) dX9_solve_54 dX9_solve_56 (by decide) (by decide) (fun g13 H locs sg12 esg12 hw => ?_)
      refine W.widen (k := 1) (n := 4096) (by omega) (by have := hw11.2; omega) ?_
      replace h := lt_get h sg12 esg12
      refine lv_aload_n hx hb dX9_solve_59 rfl (lv_at hl 1 rfl) ?_
      refine lv_iload_n hx hb dX9_solve_60 rfl (lv_at hl 0 rfl) ?_
      refine lv_iconst (v := (1 : Int32)) hx hb dX9_solve_61 (by decide) ?_
      refine lv_iadd hx hb dX9_solve_62 ?_
      refine lv_topi (fun x14 ex14 => ?_)
      replace h := lt_get h x14 ex14
      have hw15 := (gnw_some h).1
      replace h := (gnw_some h).2
      refine r_new64 hx hb hts kX9_solve_iX9 hown hK hw hA (hts _ kX9_solve_arI) hw15 (hts _ kX9_solve_f25) dX9_solve_63 dX9_solve_65 (by decide) (by decide) (fun g17 H locs sg16 esg16 hw => ?_)
      refine W.widen (k := 2) (n := 8192) (by omega) (by have := hw15.2; omega) ?_
      replace h := lt_get h sg16 esg16
      exact tX9_solve_68 C y6 sg16 g17 _ _ _ hw (lv_sub hl [1, 0] rfl) h
  · replace h := ite_t h c3
    cases h
    exact r_vret C hw ⟨_, rfl⟩ (by decide) (by decide) dX9_solve_21
theorem mX9_solve (l : Launch) (D : va_G) (T : Nat → ClassId) (a g : Nat → Nat) (lg : Lg) (sz : Nat)   (sg : Sg) {so : Sg} (h : fX9_solve sg = some so) : Met l yX9_solve wsX9_solve rmX9_solve (PreZ ZC D vwCl T (tysC T) (adr a g) sg lg true nwL [.ref ((adr a g) 4)] sz) (QV ZC D vwCl T (tysC T) (va_A (zwd ZC T (adr a g) sg lg) sz) (fun z => ∃ g' : Nat → Nat, z = adr a g') so lg) 2 8192 (va_A (zwd ZC T (adr a g) sg lg) sz) :=
  metZ [.ref ((adr a g) 4)] sz (by decide) rfl (Nat.le_of_ble_eq_true rfl) (fun p e s m below meth c ls C hw hl => tX9_solve_0 C sg g _ _ _ hw hl h)
-- PeckYard$Orders.hasLawful()Z
def rmX9_hasLawful : Room := { frames := 0, cells := 0, slots := 0, locals := 0 }
theorem kX9_hasLawful_f21 : Cond.fieldLink RX9 21 "PeckYard$Orders" "rest" "[I" ∈ wsX9_hasLawful := by decide +kernel
theorem kX9_hasLawful_iX9 : ∀ w ∈ u_ws RX9 TX9 11, w ∈ wsX9_hasLawful := by decide +kernel
theorem kX9_hasLawful_c71 : Cond.constant RX9 71 (1000000000) ∈ wsX9_hasLawful := by decide +kernel
def fX9_hasLawful  (sg : Sg) : Option (Int32 × Sg) :=
  gin (0 : Int32) ((sg 99 63).toNatClampNeg) ((if (1000000000 : Int32) ≤ (sg 63 (0 : Int32).toNatClampNeg) then some ((0 : Int32), sg) else some ((1 : Int32), sg)))
set_option maxHeartbeats 4000000 in
set_option maxRecDepth 100000 in
theorem tX9_hasLawful_0 (C : Cx p s m args meth c cX9_hasLawful 1 RX9 wsX9_hasLawful (some .boolean) D vwCl (tysC T) A true nwL) {ro : Int32} {so : Sg}   : ∀ (sg : Sg), ∀ (H : Heap) (locs : List Loc) (ls : Array Slot), WS ZC D vwCl T ad sg lg A s.heap H locs → lv_has ls 1 [(0, .ref (ad 4))] → fX9_hasLawful sg = some (ro, so) → W p l e rmX9_hasLawful s m args below meth c H locs 0 0 (MQ below (QI ZC D vwCl T (tysC T) A (fun z => ad = z) ro so lg) args s 0 0 A) (F0 m 0 ls []) := by
  obtain ⟨⟨hx, hb, hml, hown, hts⟩, hr, hlk, hK, hA, hsp⟩ := id C
  intro sg H locs ls hw hl h
  unfold fX9_hasLawful at h
  refine lv_aload_n hx hb dX9_hasLawful_0 rfl (lv_at hl 0 rfl) ?_
  refine r_getR (ci := 9) (C := RX9) (U := TX9) (N := 11) hx hb hts kX9_hasLawful_iX9 hown hK hw 4 (by decide) rfl rfl 6 (by decide) 63 rfl (hts _ kX9_hasLawful_f21) (fun _ h9 => h9) dX9_hasLawful_1 ?_
  refine lv_iconst (v := (0 : Int32)) hx hb dX9_hasLawful_4 (by decide) ?_
  have hi1 := (gin_some h).1
  replace h := (gin_some h).2
  refine r_iald hx hb hK hw 63 0 ((sg 99 63).toNatClampNeg) (by decide) rfl rfl rfl hi1 dX9_hasLawful_5 ?_
  refine lv_ldc hx hb hown (hts _ kX9_hasLawful_c71) dX9_hasLawful_6 ?_
  refine lv_icmp_ge (tgt := 15) hx hb dX9_hasLawful_8 (by decide) (fun c2 => ?_) (fun c2 => ?_)
  · replace h := ite_t h c2
    refine lv_iconst (v := (0 : Int32)) hx hb dX9_hasLawful_15 (by decide) ?_
    cases h
    exact r_zret C hw rfl (by decide) (by decide) (by decide) dX9_hasLawful_16
  · replace h := ite_f h c2
    refine lv_iconst (v := (1 : Int32)) hx hb dX9_hasLawful_11 (by decide) ?_
    refine lv_goto (tgt := 16) hx hb dX9_hasLawful_12 (by decide) ?_
    cases h
    exact r_zret C hw rfl (by decide) (by decide) (by decide) dX9_hasLawful_16
theorem mX9_hasLawful (l : Launch) (D : va_G) (T : Nat → ClassId) (ad : Nat → Nat) (lg : Lg) (sz : Nat)   (sg : Sg) {ro : Int32} {so : Sg} (h : fX9_hasLawful sg = some (ro, so)) : Met l yX9_hasLawful wsX9_hasLawful rmX9_hasLawful (PreZ ZC D vwCl T (tysC T) ad sg lg true nwL [.ref (ad 4)] sz) (QI ZC D vwCl T (tysC T) (va_A (zwd ZC T ad sg lg) sz) (fun z => ad = z) ro so lg) 0 0 (va_A (zwd ZC T ad sg lg) sz) :=
  metZ [.ref (ad 4)] sz (by decide) rfl (Nat.le_of_ble_eq_true rfl) (fun p e s m below meth c ls C hw hl => tX9_hasLawful_0 C sg _ _ _ hw hl h)
-- PeckYard$Orders.leastWeight()J
def rmX9_leastWeight : Room := { frames := 0, cells := 0, slots := 0, locals := 0 }
theorem kX9_leastWeight_f21 : Cond.fieldLink RX9 21 "PeckYard$Orders" "rest" "[I" ∈ wsX9_leastWeight := by decide +kernel
theorem kX9_leastWeight_iX9 : ∀ w ∈ u_ws RX9 TX9 11, w ∈ wsX9_leastWeight := by decide +kernel
def fX9_leastWeight  (sg : Sg) : Option (Int64 × Sg) :=
  gin (0 : Int32) ((sg 99 63).toNatClampNeg) (some ((sg 63 (0 : Int32).toNatClampNeg).toInt64, sg))
set_option maxHeartbeats 4000000 in
set_option maxRecDepth 100000 in
theorem tX9_leastWeight_0 (C : Cx p s m args meth c cX9_leastWeight 1 RX9 wsX9_leastWeight (some .long) D vwCl (tysC T) A true nwL) {ro : Int64} {so : Sg}   : ∀ (sg : Sg), ∀ (H : Heap) (locs : List Loc) (ls : Array Slot), WS ZC D vwCl T ad sg lg A s.heap H locs → lv_has ls 1 [(0, .ref (ad 4))] → fX9_leastWeight sg = some (ro, so) → W p l e rmX9_leastWeight s m args below meth c H locs 0 0 (MQ below (QL ZC D vwCl T (tysC T) A (fun z => ad = z) ro so lg) args s 0 0 A) (F0 m 0 ls []) := by
  obtain ⟨⟨hx, hb, hml, hown, hts⟩, hr, hlk, hK, hA, hsp⟩ := id C
  intro sg H locs ls hw hl h
  unfold fX9_leastWeight at h
  refine lv_aload_n hx hb dX9_leastWeight_0 rfl (lv_at hl 0 rfl) ?_
  refine r_getR (ci := 9) (C := RX9) (U := TX9) (N := 11) hx hb hts kX9_leastWeight_iX9 hown hK hw 4 (by decide) rfl rfl 6 (by decide) 63 rfl (hts _ kX9_leastWeight_f21) (fun _ h9 => h9) dX9_leastWeight_1 ?_
  refine lv_iconst (v := (0 : Int32)) hx hb dX9_leastWeight_4 (by decide) ?_
  have hi1 := (gin_some h).1
  replace h := (gin_some h).2
  refine r_iald hx hb hK hw 63 0 ((sg 99 63).toNatClampNeg) (by decide) rfl rfl rfl hi1 dX9_leastWeight_5 ?_
  refine lv_i2l (v := (sg 63 (0 : Int32).toNatClampNeg).toInt64) hx hb dX9_leastWeight_6 rfl ?_
  cases h
  exact r_lret C hw rfl (by decide) (by decide) dX9_leastWeight_7
theorem mX9_leastWeight (l : Launch) (D : va_G) (T : Nat → ClassId) (ad : Nat → Nat) (lg : Lg) (sz : Nat)   (sg : Sg) {ro : Int64} {so : Sg} (h : fX9_leastWeight sg = some (ro, so)) : Met l yX9_leastWeight wsX9_leastWeight rmX9_leastWeight (PreZ ZC D vwCl T (tysC T) ad sg lg true nwL [.ref (ad 4)] sz) (QL ZC D vwCl T (tysC T) (va_A (zwd ZC T ad sg lg) sz) (fun z => ad = z) ro so lg) 0 0 (va_A (zwd ZC T ad sg lg) sz) :=
  metZ [.ref (ad 4)] sz (by decide) rfl (Nat.le_of_ble_eq_true rfl) (fun p e s m below meth c ls C hw hl => tX9_leastWeight_0 C sg _ _ _ hw hl h)
-- PeckYard.least()J
def rmX11_least : Room := { frames := 5, cells := 2, slots := 8192, locals := 110 }
theorem kX11_least_f37 : Cond.fieldLink RX11 37 "PeckYard" "orders" "LPeckYard$Orders;" ∈ wsX11_least := by decide +kernel
theorem kX11_least_iX11 : ∀ w ∈ u_ws RX11 TX11 9, w ∈ wsX11_least := by decide +kernel
theorem kX11_least_c140 : Cond.constantLong RX11 140 (-2000000005) ∈ wsX11_least := by decide +kernel
def fX11_least  (sg : Sg) : Option (Int64 × Sg) :=
  bnd1 (fX9_solve sg) (fun sg1 => bnd2 (fX9_hasLawful sg1) (fun y4 sg5 => (if y4 = 0 then some ((-2000000005 : Int64), sg5) else bnd2 (fX9_leastWeight sg5) (fun y8 sg9 => some (y8, sg9)))))
set_option maxHeartbeats 4000000 in
set_option maxRecDepth 100000 in
theorem tX11_least_0 (C : Cx p s m args meth c cX11_least 1 RX11 wsX11_least (some .long) D vwCl (tysC T) A true nwL) {ro : Int64} {so : Sg}   : ∀ (sg : Sg), ∀ (g : Nat → Nat) (H : Heap) (locs : List Loc) (ls : Array Slot), WS ZC D vwCl T (adr a g) sg lg A s.heap H locs → lv_has ls 1 [(0, .ref ((adr a g) 0))] → fX11_least sg = some (ro, so) → W p l e rmX11_least s m args below meth c H locs 0 0 (MQ below (QL ZC D vwCl T (tysC T) A (fun z => ∃ g' : Nat → Nat, z = adr a g') ro so lg) args s 2 8192 A) (F0 m 0 ls []) := by
  obtain ⟨⟨hx, hb, hml, hown, hts⟩, hr, hlk, hK, hA, hsp⟩ := id C
  intro sg g H locs ls hw hl h
  unfold fX11_least at h
  refine lv_aload_n hx hb dX11_least_0 rfl (lv_at hl 0 rfl) ?_
  refine r_getR (ci := 11) (C := RX11) (U := TX11) (N := 9) hx hb hts kX11_least_iX11 hown hK hw 0 (by decide) rfl rfl 3 (by decide) 4 rfl (hts _ kX11_least_f37) (fun _ h9 => h9) dX11_least_1 ?_
  obtain ⟨sg1, hq2, h2⟩ := bnd1_some h
  replace h := h2
  clear h2
  refine r_cVv (As := []) (rest := []) C hw 4 (by decide) (ci := 9) rfl rfl (mX9_solve l D T a g lg H.size sg hq2) (cwV 0 hts gX11_least_X9_solve rfl rfl rfl (by decide +kernel) ⟨Nat.le_of_ble_eq_true rfl, Nat.le_of_ble_eq_true rfl⟩) rfl hl.1 rfl (Nat.le_of_ble_eq_true rfl) dX11_least_4 ⟨Nat.le_of_ble_eq_true rfl, Nat.le_of_ble_eq_true rfl⟩ (fun ad' H locs hp hw => ?_)
  obtain ⟨g3, rfl⟩ := hp
  refine W.widen (k := 2) (n := 8192) (by decide) (by decide) ?_
  refine lv_aload_n hx hb dX11_least_7 rfl (lv_at hl 0 rfl) ?_
  refine r_getR (ci := 11) (C := RX11) (U := TX11) (N := 9) hx hb hts kX11_least_iX11 hown hK hw 0 (by decide) rfl rfl 3 (by decide) 4 rfl (hts _ kX11_least_f37) (fun _ h9 => h9) dX11_least_8 ?_
  obtain ⟨y4, sg5, hq6, h2⟩ := bnd2_some h
  replace h := h2
  clear h2
  refine r_cVi (As := []) (rest := []) C hw 4 (by decide) (ci := 9) rfl rfl (mX9_hasLawful l D T (adr a g3) lg H.size sg1 hq6) (cwV 0 hts gX11_least_X9_hasLawful rfl rfl rfl (by decide +kernel) ⟨Nat.le_of_ble_eq_true rfl, Nat.le_of_ble_eq_true rfl⟩) rfl hl.1 rfl (Nat.le_of_ble_eq_true rfl) dX11_least_11 ⟨Nat.le_of_ble_eq_true rfl, Nat.le_of_ble_eq_true rfl⟩ (fun ad' H locs hp hw => ?_)
  subst hp
  refine W.widen (k := 2) (n := 8192) (by decide) (by decide) ?_
  refine lv_if_eq (tgt := 27) hx hb dX11_least_14 (by decide) (fun c7 => ?_) (fun c7 => ?_)
  · replace h := ite_t h c7
    refine lv_ldc2 hx hb hown (hts _ kX11_least_c140) dX11_least_27 ?_
    cases h
    exact r_lret C hw ⟨_, rfl⟩ (by decide) (by decide) dX11_least_30
  · replace h := ite_f h c7
    refine lv_aload_n hx hb dX11_least_17 rfl (lv_at hl 0 rfl) ?_
    refine r_getR (ci := 11) (C := RX11) (U := TX11) (N := 9) hx hb hts kX11_least_iX11 hown hK hw 0 (by decide) rfl rfl 3 (by decide) 4 rfl (hts _ kX11_least_f37) (fun _ h9 => h9) dX11_least_18 ?_
    obtain ⟨y8, sg9, hq10, h2⟩ := bnd2_some h
    replace h := h2
    clear h2
    refine r_cVl (As := []) (rest := []) C hw 4 (by decide) (ci := 9) rfl rfl (mX9_leastWeight l D T (adr a g3) lg H.size sg5 hq10) (cwV 0 hts gX11_least_X9_leastWeight rfl rfl rfl (by decide +kernel) ⟨Nat.le_of_ble_eq_true rfl, Nat.le_of_ble_eq_true rfl⟩) rfl hl.1 rfl (Nat.le_of_ble_eq_true rfl) dX11_least_21 ⟨Nat.le_of_ble_eq_true rfl, Nat.le_of_ble_eq_true rfl⟩ (fun ad' H locs hp hw => ?_)
    subst hp
    refine W.widen (k := 2) (n := 8192) (by decide) (by decide) ?_
    refine lv_goto (tgt := 30) hx hb dX11_least_24 (by decide) ?_
    cases h
    exact r_lret C hw ⟨_, rfl⟩ (by decide) (by decide) dX11_least_30
theorem mX11_least (l : Launch) (D : va_G) (T : Nat → ClassId) (a g : Nat → Nat) (lg : Lg) (sz : Nat)   (sg : Sg) {ro : Int64} {so : Sg} (h : fX11_least sg = some (ro, so)) : Met l yX11_least wsX11_least rmX11_least (PreZ ZC D vwCl T (tysC T) (adr a g) sg lg true nwL [.ref ((adr a g) 0)] sz) (QL ZC D vwCl T (tysC T) (va_A (zwd ZC T (adr a g) sg lg) sz) (fun z => ∃ g' : Nat → Nat, z = adr a g') ro so lg) 2 8192 (va_A (zwd ZC T (adr a g) sg lg) sz) :=
  metZ [.ref ((adr a g) 0)] sz (by decide) rfl (Nat.le_of_ble_eq_true rfl) (fun p e s m below meth c ls C hw hl => tX11_least_0 C sg g _ _ _ hw hl h)
-- PeckYard$Orders.howMany()J
def rmX9_howMany : Room := { frames := 0, cells := 0, slots := 0, locals := 0 }
theorem kX9_howMany_f25 : Cond.fieldLink RX9 25 "PeckYard$Orders" "ways" "[I" ∈ wsX9_howMany := by decide +kernel
theorem kX9_howMany_iX9 : ∀ w ∈ u_ws RX9 TX9 11, w ∈ wsX9_howMany := by decide +kernel
def fX9_howMany  (sg : Sg) : Option (Int64 × Sg) :=
  gin (0 : Int32) ((sg 99 64).toNatClampNeg) (some ((sg 64 (0 : Int32).toNatClampNeg).toInt64, sg))
set_option maxHeartbeats 4000000 in
set_option maxRecDepth 100000 in
theorem tX9_howMany_0 (C : Cx p s m args meth c cX9_howMany 1 RX9 wsX9_howMany (some .long) D vwCl (tysC T) A true nwL) {ro : Int64} {so : Sg}   : ∀ (sg : Sg), ∀ (H : Heap) (locs : List Loc) (ls : Array Slot), WS ZC D vwCl T ad sg lg A s.heap H locs → lv_has ls 1 [(0, .ref (ad 4))] → fX9_howMany sg = some (ro, so) → W p l e rmX9_howMany s m args below meth c H locs 0 0 (MQ below (QL ZC D vwCl T (tysC T) A (fun z => ad = z) ro so lg) args s 0 0 A) (F0 m 0 ls []) := by
  obtain ⟨⟨hx, hb, hml, hown, hts⟩, hr, hlk, hK, hA, hsp⟩ := id C
  intro sg H locs ls hw hl h
  unfold fX9_howMany at h
  refine lv_aload_n hx hb dX9_howMany_0 rfl (lv_at hl 0 rfl) ?_
  refine r_getR (ci := 9) (C := RX9) (U := TX9) (N := 11) hx hb hts kX9_howMany_iX9 hown hK hw 4 (by decide) rfl rfl 7 (by decide) 64 rfl (hts _ kX9_howMany_f25) (fun _ h9 => h9) dX9_howMany_1 ?_
  refine lv_iconst (v := (0 : Int32)) hx hb dX9_howMany_4 (by decide) ?_
  have hi1 := (gin_some h).1
  replace h := (gin_some h).2
  refine r_iald hx hb hK hw 64 0 ((sg 99 64).toNatClampNeg) (by decide) rfl rfl rfl hi1 dX9_howMany_5 ?_
  refine lv_i2l (v := (sg 64 (0 : Int32).toNatClampNeg).toInt64) hx hb dX9_howMany_6 rfl ?_
  cases h
  exact r_lret C hw rfl (by decide) (by decide) dX9_howMany_7
theorem mX9_howMany (l : Launch) (D : va_G) (T : Nat → ClassId) (ad : Nat → Nat) (lg : Lg) (sz : Nat)   (sg : Sg) {ro : Int64} {so : Sg} (h : fX9_howMany sg = some (ro, so)) : Met l yX9_howMany wsX9_howMany rmX9_howMany (PreZ ZC D vwCl T (tysC T) ad sg lg true nwL [.ref (ad 4)] sz) (QL ZC D vwCl T (tysC T) (va_A (zwd ZC T ad sg lg) sz) (fun z => ad = z) ro so lg) 0 0 (va_A (zwd ZC T ad sg lg) sz) :=
  metZ [.ref (ad 4)] sz (by decide) rfl (Nat.le_of_ble_eq_true rfl) (fun p e s m below meth c ls C hw hl => tX9_howMany_0 C sg _ _ _ hw hl h)
-- PeckYard.many()J
def rmX11_many : Room := { frames := 5, cells := 2, slots := 8192, locals := 110 }
theorem kX11_many_f37 : Cond.fieldLink RX11 37 "PeckYard" "orders" "LPeckYard$Orders;" ∈ wsX11_many := by decide +kernel
theorem kX11_many_iX11 : ∀ w ∈ u_ws RX11 TX11 9, w ∈ wsX11_many := by decide +kernel
def fX11_many  (sg : Sg) : Option (Int64 × Sg) :=
  bnd1 (fX9_solve sg) (fun sg1 => bnd2 (fX9_howMany sg1) (fun y4 sg5 => some (y4, sg5)))
set_option maxHeartbeats 4000000 in
set_option maxRecDepth 100000 in
theorem tX11_many_0 (C : Cx p s m args meth c cX11_many 1 RX11 wsX11_many (some .long) D vwCl (tysC T) A true nwL) {ro : Int64} {so : Sg}   : ∀ (sg : Sg), ∀ (g : Nat → Nat) (H : Heap) (locs : List Loc) (ls : Array Slot), WS ZC D vwCl T (adr a g) sg lg A s.heap H locs → lv_has ls 1 [(0, .ref ((adr a g) 0))] → fX11_many sg = some (ro, so) → W p l e rmX11_many s m args below meth c H locs 0 0 (MQ below (QL ZC D vwCl T (tysC T) A (fun z => ∃ g' : Nat → Nat, z = adr a g') ro so lg) args s 2 8192 A) (F0 m 0 ls []) := by
  obtain ⟨⟨hx, hb, hml, hown, hts⟩, hr, hlk, hK, hA, hsp⟩ := id C
  intro sg g H locs ls hw hl h
  unfold fX11_many at h
  refine lv_aload_n hx hb dX11_many_0 rfl (lv_at hl 0 rfl) ?_
  refine r_getR (ci := 11) (C := RX11) (U := TX11) (N := 9) hx hb hts kX11_many_iX11 hown hK hw 0 (by decide) rfl rfl 3 (by decide) 4 rfl (hts _ kX11_many_f37) (fun _ h9 => h9) dX11_many_1 ?_
  obtain ⟨sg1, hq2, h2⟩ := bnd1_some h
  replace h := h2
  clear h2
  refine r_cVv (As := []) (rest := []) C hw 4 (by decide) (ci := 9) rfl rfl (mX9_solve l D T a g lg H.size sg hq2) (cwV 0 hts gX11_many_X9_solve rfl rfl rfl (by decide +kernel) ⟨Nat.le_of_ble_eq_true rfl, Nat.le_of_ble_eq_true rfl⟩) rfl hl.1 rfl (Nat.le_of_ble_eq_true rfl) dX11_many_4 ⟨Nat.le_of_ble_eq_true rfl, Nat.le_of_ble_eq_true rfl⟩ (fun ad' H locs hp hw => ?_)
  obtain ⟨g3, rfl⟩ := hp
  refine W.widen (k := 2) (n := 8192) (by decide) (by decide) ?_
  refine lv_aload_n hx hb dX11_many_7 rfl (lv_at hl 0 rfl) ?_
  refine r_getR (ci := 11) (C := RX11) (U := TX11) (N := 9) hx hb hts kX11_many_iX11 hown hK hw 0 (by decide) rfl rfl 3 (by decide) 4 rfl (hts _ kX11_many_f37) (fun _ h9 => h9) dX11_many_8 ?_
  obtain ⟨y4, sg5, hq6, h2⟩ := bnd2_some h
  replace h := h2
  clear h2
  refine r_cVl (As := []) (rest := []) C hw 4 (by decide) (ci := 9) rfl rfl (mX9_howMany l D T (adr a g3) lg H.size sg1 hq6) (cwV 0 hts gX11_many_X9_howMany rfl rfl rfl (by decide +kernel) ⟨Nat.le_of_ble_eq_true rfl, Nat.le_of_ble_eq_true rfl⟩) rfl hl.1 rfl (Nat.le_of_ble_eq_true rfl) dX11_many_11 ⟨Nat.le_of_ble_eq_true rfl, Nat.le_of_ble_eq_true rfl⟩ (fun ad' H locs hp hw => ?_)
  subst hp
  refine W.widen (k := 2) (n := 8192) (by decide) (by decide) ?_
  cases h
  exact r_lret C hw ⟨_, rfl⟩ (by decide) (by decide) dX11_many_14
theorem mX11_many (l : Launch) (D : va_G) (T : Nat → ClassId) (a g : Nat → Nat) (lg : Lg) (sz : Nat)   (sg : Sg) {ro : Int64} {so : Sg} (h : fX11_many sg = some (ro, so)) : Met l yX11_many wsX11_many rmX11_many (PreZ ZC D vwCl T (tysC T) (adr a g) sg lg true nwL [.ref ((adr a g) 0)] sz) (QL ZC D vwCl T (tysC T) (va_A (zwd ZC T (adr a g) sg lg) sz) (fun z => ∃ g' : Nat → Nat, z = adr a g') ro so lg) 2 8192 (va_A (zwd ZC T (adr a g) sg lg) sz) :=
  metZ [.ref ((adr a g) 0)] sz (by decide) rfl (Nat.le_of_ble_eq_true rfl) (fun p e s m below meth c ls C hw hl => tX11_many_0 C sg g _ _ _ hw hl h)
-- PeckYard.isIn(II)Z
def rmX11_isIn : Room := { frames := 0, cells := 0, slots := 0, locals := 0 }
def fX11_isIn  (v0 : Int32) (v1 : Int32) (sg : Sg) : Option (Int32 × Sg) :=
  (if ((v0 >>> (v1 &&& 31)) &&& (1 : Int32)) = (1 : Int32) then some ((1 : Int32), sg) else some ((0 : Int32), sg))
set_option maxHeartbeats 4000000 in
set_option maxRecDepth 100000 in
theorem tX11_isIn_0 (C : Cx p s m args meth c cX11_isIn 2 RX11 wsX11_isIn (some .boolean) D vwCl (tysC T) A true nwL) {ro : Int32} {so : Sg}   : ∀ (v0 : Int32) (v1 : Int32) (sg : Sg), ∀ (H : Heap) (locs : List Loc) (ls : Array Slot), WS ZC D vwCl T ad sg lg A s.heap H locs → lv_has ls 2 [(0, .int v0), (1, .int v1)] → fX11_isIn v0 v1 sg = some (ro, so) → W p l e rmX11_isIn s m args below meth c H locs 0 0 (MQ below (QI ZC D vwCl T (tysC T) A (fun z => ad = z) ro so lg) args s 0 0 A) (F0 m 0 ls []) := by
  obtain ⟨⟨hx, hb, hml, hown, hts⟩, hr, hlk, hK, hA, hsp⟩ := id C
  intro v0 v1 sg H locs ls hw hl h
  unfold fX11_isIn at h
  refine lv_iload_n hx hb dX11_isIn_0 rfl (lv_at hl 0 rfl) ?_
  refine lv_iload_n hx hb dX11_isIn_1 rfl (lv_at hl 1 rfl) ?_
  refine lv_ishr hx hb dX11_isIn_2 ?_
  refine lv_iconst (v := (1 : Int32)) hx hb dX11_isIn_3 (by decide) ?_
  refine lv_iand hx hb dX11_isIn_4 ?_
  refine lv_iconst (v := (1 : Int32)) hx hb dX11_isIn_5 (by decide) ?_
  refine lv_icmp_ne (tgt := 13) hx hb dX11_isIn_6 (by decide) (fun c1 => ?_) (fun c1 => ?_)
  · replace h := ite_f h c1
    refine lv_iconst (v := (0 : Int32)) hx hb dX11_isIn_13 (by decide) ?_
    cases h
    exact r_zret C hw rfl (by decide) (by decide) (by decide) dX11_isIn_14
  · replace h := ite_t h c1
    refine lv_iconst (v := (1 : Int32)) hx hb dX11_isIn_9 (by decide) ?_
    refine lv_goto (tgt := 14) hx hb dX11_isIn_10 (by decide) ?_
    cases h
    exact r_zret C hw rfl (by decide) (by decide) (by decide) dX11_isIn_14
theorem mX11_isIn (l : Launch) (D : va_G) (T : Nat → ClassId) (ad : Nat → Nat) (lg : Lg) (sz : Nat)   (v0 : Int32) (v1 : Int32) (sg : Sg) {ro : Int32} {so : Sg} (h : fX11_isIn v0 v1 sg = some (ro, so)) : Met l yX11_isIn wsX11_isIn rmX11_isIn (PreZ ZC D vwCl T (tysC T) ad sg lg true nwL [.int v0, .int v1] sz) (QI ZC D vwCl T (tysC T) (va_A (zwd ZC T ad sg lg) sz) (fun z => ad = z) ro so lg) 0 0 (va_A (zwd ZC T ad sg lg) sz) :=
  metZ [.int v0, .int v1] sz (by decide) rfl (Nat.le_of_ble_eq_true rfl) (fun p e s m below meth c ls C hw hl => tX11_isIn_0 C v0 v1 sg _ _ _ hw hl h)
-- PeckYard$Orders.bestChoices(I)I
def rmX9_bestChoices : Room := { frames := 2, cells := 0, slots := 0, locals := 44 }
theorem kX9_bestChoices_f38 : Cond.fieldLink RX9 38 "PeckYard$Orders" "muster" "LPeckYard$Muster;" ∈ wsX9_bestChoices := by decide +kernel
theorem kX9_bestChoices_iX9 : ∀ w ∈ u_ws RX9 TX9 11, w ∈ wsX9_bestChoices := by decide +kernel
theorem kX9_bestChoices_f82 : Cond.fieldLink RX9 82 "PeckYard$Muster" "size" "I" ∈ wsX9_bestChoices := by decide +kernel
theorem kX9_bestChoices_iX8 : ∀ w ∈ u_ws RX8 TX8 10, w ∈ wsX9_bestChoices := by decide +kernel
theorem kX9_bestChoices_ini_X11 : Cond.initialized "PeckYard" ∈ wsX9_bestChoices := by decide +kernel
theorem kX9_bestChoices_s85 : Cond.static yX11_isIn ∈ wsX9_bestChoices := by decide +kernel
theorem kX9_bestChoices_f21 : Cond.fieldLink RX9 21 "PeckYard$Orders" "rest" "[I" ∈ wsX9_bestChoices := by decide +kernel
theorem kX9_bestChoices_f47 : Cond.fieldLink RX9 47 "PeckYard$Orders" "halves" "LPeckYard$Halves;" ∈ wsX9_bestChoices := by decide +kernel
def fX9_bestChoices_77 (r11 : (Int32 × Int32 × Int32 × Int32 × Sg) → Option (Int32 × Sg)) (v1 : Int32) (v2 : Int32) (v3 : Int32) (v4 : Int32) (sg : Sg) : Option (Int32 × Sg) :=
  lt (v4 + (1 : Int32)) (fun x1 => r11 (v1, v2, v3, x1, sg))
set_option maxHeartbeats 4000000 in
set_option maxRecDepth 100000 in
theorem tX9_bestChoices_77 (C : Cx p s m args meth c cX9_bestChoices 5 RX9 wsX9_bestChoices (some .int) D vwCl (tysC T) A true nwL) {ro : Int32} {so : Sg} {r11 : (Int32 × Int32 × Int32 × Int32 × Sg) → Option (Int32 × Sg)} (hr11 : ∀ (v1 : Int32) (v2 : Int32) (v3 : Int32) (v4 : Int32) (sg : Sg), r11 (v1, v2, v3, v4, sg) = some (ro, so) → ∀ (H : Heap) (locs : List Loc) (ls : Array Slot), WS ZC D vwCl T ad sg lg A s.heap H locs → lv_has ls 5 [(0, .ref (ad 4)), (1, .int v1), (2, .int v2), (3, .int v3), (4, .int v4)] → W p l e rmX9_bestChoices s m args below meth c H locs 0 0 (MQ below (QI ZC D vwCl T (tysC T) A (fun z => ad = z) ro so lg) args s 0 0 A) (F0 m 11 ls [])) : ∀ (v1 : Int32) (v2 : Int32) (v3 : Int32) (v4 : Int32) (sg : Sg), ∀ (H : Heap) (locs : List Loc) (ls : Array Slot), WS ZC D vwCl T ad sg lg A s.heap H locs → lv_has ls 5 [(0, .ref (ad 4)), (1, .int v1), (2, .int v2), (3, .int v3), (4, .int v4)] → fX9_bestChoices_77 r11 v1 v2 v3 v4 sg = some (ro, so) → W p l e rmX9_bestChoices s m args below meth c H locs 0 0 (MQ below (QI ZC D vwCl T (tysC T) A (fun z => ad = z) ro so lg) args s 0 0 A) (F0 m 77 ls []) := by
  obtain ⟨⟨hx, hb, hml, hown, hts⟩, hr, hlk, hK, hA, hsp⟩ := id C
  intro v1 v2 v3 v4 sg H locs ls hw hl h
  unfold fX9_bestChoices_77 at h
  obtain ⟨x1, ex1⟩ : ∃ z : Int32, z = (v4 + (1 : Int32)) := ⟨_, rfl⟩
  replace h := lt_get h x1 ex1
  refine lv_iinc (v := x1) (lv' := [(4, .int x1), (0, .ref (ad 4)), (1, .int v1), (2, .int v2), (3, .int v3)]) hx hb dX9_bestChoices_77 hl (k := 4) rfl (by rw [ex1]; rfl) (by decide) rfl (fun ls hl => ?_)
  refine lv_goto (tgt := 11) hx hb dX9_bestChoices_80 (by decide) ?_
  exact hr11 v1 v2 v3 x1 sg h _ _ _ hw (lv_sub hl [1, 2, 3, 4, 0] rfl)
def fX9_bestChoices_11 (r11 : (Int32 × Int32 × Int32 × Int32 × Sg) → Option (Int32 × Sg)) (v1 : Int32) (v2 : Int32) (v3 : Int32) (v4 : Int32) (sg : Sg) : Option (Int32 × Sg) :=
  (if (sg 3 2) ≤ v4 then some (v3, sg) else (if (v2 >>> (v4 &&& 31)) = 0 then some (v3, sg) else bnd2 (fX11_isIn v2 v4 sg) (fun y3 sg4 => (if y3 = 0 then fX9_bestChoices_77 r11 v1 v2 v3 v4 sg4 else gin v1 ((sg4 99 63).toNatClampNeg) (lt (v1 ||| ((1 : Int32) <<< (v4 &&& 31))) (fun x9 => gin x9 ((sg4 99 63).toNatClampNeg) (bnd2 (fX4_costBelow v1 v4 sg4) (fun y11 sg12 => (if (sg4 63 v1.toNatClampNeg) = ((sg4 63 x9.toNatClampNeg) + y11) then lt (v3 ||| ((1 : Int32) <<< (v4 &&& 31))) (fun x15 => fX9_bestChoices_77 r11 v1 v2 x15 v4 sg12) else fX9_bestChoices_77 r11 v1 v2 v3 v4 sg12)))))))))
set_option maxHeartbeats 4000000 in
set_option maxRecDepth 100000 in
theorem tX9_bestChoices_11 (C : Cx p s m args meth c cX9_bestChoices 5 RX9 wsX9_bestChoices (some .int) D vwCl (tysC T) A true nwL) {ro : Int32} {so : Sg} {r11 : (Int32 × Int32 × Int32 × Int32 × Sg) → Option (Int32 × Sg)} (hr11 : ∀ (v1 : Int32) (v2 : Int32) (v3 : Int32) (v4 : Int32) (sg : Sg), r11 (v1, v2, v3, v4, sg) = some (ro, so) → ∀ (H : Heap) (locs : List Loc) (ls : Array Slot), WS ZC D vwCl T ad sg lg A s.heap H locs → lv_has ls 5 [(0, .ref (ad 4)), (1, .int v1), (2, .int v2), (3, .int v3), (4, .int v4)] → W p l e rmX9_bestChoices s m args below meth c H locs 0 0 (MQ below (QI ZC D vwCl T (tysC T) A (fun z => ad = z) ro so lg) args s 0 0 A) (F0 m 11 ls [])) : ∀ (v1 : Int32) (v2 : Int32) (v3 : Int32) (v4 : Int32) (sg : Sg), ∀ (H : Heap) (locs : List Loc) (ls : Array Slot), WS ZC D vwCl T ad sg lg A s.heap H locs → lv_has ls 5 [(0, .ref (ad 4)), (1, .int v1), (2, .int v2), (3, .int v3), (4, .int v4)] → fX9_bestChoices_11 r11 v1 v2 v3 v4 sg = some (ro, so) → W p l e rmX9_bestChoices s m args below meth c H locs 0 0 (MQ below (QI ZC D vwCl T (tysC T) A (fun z => ad = z) ro so lg) args s 0 0 A) (F0 m 11 ls []) := by
  obtain ⟨⟨hx, hb, hml, hown, hts⟩, hr, hlk, hK, hA, hsp⟩ := id C
  intro v1 v2 v3 v4 sg H locs ls hw hl h
  unfold fX9_bestChoices_11 at h
  refine lv_iload hx hb dX9_bestChoices_11 (lv_at hl 4 rfl) ?_
  refine lv_aload_n hx hb dX9_bestChoices_13 rfl (lv_at hl 0 rfl) ?_
  refine r_getR (ci := 9) (C := RX9) (U := TX9) (N := 11) hx hb hts kX9_bestChoices_iX9 hown hK hw 4 (by decide) rfl rfl 0 (by decide) 3 rfl (hts _ kX9_bestChoices_f38) (fun _ h9 => h9) dX9_bestChoices_14 ?_
  refine r_getI (ci := 8) (C := RX8) (U := TX8) (N := 10) hx hb hts kX9_bestChoices_iX8 hown hK hw 3 (by decide) rfl rfl 2 (by decide) rfl (hts _ kX9_bestChoices_f82) (fun _ h9 => h9) dX9_bestChoices_17 ?_
  refine lv_icmp_ge (tgt := 83) hx hb dX9_bestChoices_20 (by decide) (fun c1 => ?_) (fun c1 => ?_)
  · replace h := ite_t h c1
    refine lv_iload_n hx hb dX9_bestChoices_83 rfl (lv_at hl 3 rfl) ?_
    cases h
    exact r_iret C hw rfl (by decide) (by decide) dX9_bestChoices_84
  · replace h := ite_f h c1
    refine lv_iload_n hx hb dX9_bestChoices_23 rfl (lv_at hl 2 rfl) ?_
    refine lv_iload hx hb dX9_bestChoices_24 (lv_at hl 4 rfl) ?_
    refine lv_ishr hx hb dX9_bestChoices_26 ?_
    refine lv_if_eq (tgt := 83) hx hb dX9_bestChoices_27 (by decide) (fun c2 => ?_) (fun c2 => ?_)
    · replace h := ite_t h c2
      refine lv_iload_n hx hb dX9_bestChoices_83 rfl (lv_at hl 3 rfl) ?_
      cases h
      exact r_iret C hw rfl (by decide) (by decide) dX9_bestChoices_84
    · replace h := ite_f h c2
      refine lv_iload_n hx hb dX9_bestChoices_30 rfl (lv_at hl 2 rfl) ?_
      refine lv_iload hx hb dX9_bestChoices_31 (lv_at hl 4 rfl) ?_
      obtain ⟨y3, sg4, hq5, h2⟩ := bnd2_some h
      replace h := h2
      clear h2
      obtain ⟨-, -, hmt6⟩ := hsp rfl
      refine r_cNi (As := [.int v2, .int v4]) (rest := []) C hw (mX11_isIn l D T ad lg H.size v2 v4 sg hq5) ⟨va_cnB (host := "PeckYard") 2 hts gX9_bestChoices_X11_isIn_n85 rfl rfl rfl (hmt6 _ nw_X9_85) (hts _ kX9_bestChoices_ini_X11) (by decide +kernel) ⟨Nat.le_of_ble_eq_true rfl, Nat.le_of_ble_eq_true rfl⟩, (hts _ kX9_bestChoices_s85), trivial⟩ rfl hl.1 rfl (Nat.le_of_ble_eq_true rfl) dX9_bestChoices_33 ⟨Nat.le_of_ble_eq_true rfl, Nat.le_of_ble_eq_true rfl⟩ (fun ad' H locs hp hw => ?_)
      subst hp
      refine W.widen (k := 0) (n := 0) (by decide) (by decide) ?_
      refine lv_if_eq (tgt := 77) hx hb dX9_bestChoices_36 (by decide) (fun c7 => ?_) (fun c7 => ?_)
      · replace h := ite_t h c7
        exact tX9_bestChoices_77 C hr11 v1 v2 v3 v4 sg4 _ _ _ hw (lv_sub hl [0, 1, 2, 3, 4] rfl) h
      · replace h := ite_f h c7
        refine lv_aload_n hx hb dX9_bestChoices_39 rfl (lv_at hl 0 rfl) ?_
        refine r_getR (ci := 9) (C := RX9) (U := TX9) (N := 11) hx hb hts kX9_bestChoices_iX9 hown hK hw 4 (by decide) rfl rfl 6 (by decide) 63 rfl (hts _ kX9_bestChoices_f21) (fun _ h9 => h9) dX9_bestChoices_40 ?_
        refine lv_iload_n hx hb dX9_bestChoices_43 rfl (lv_at hl 1 rfl) ?_
        have hi8 := (gin_some h).1
        replace h := (gin_some h).2
        refine r_iald hx hb hK hw 63 0 ((sg4 99 63).toNatClampNeg) (by decide) rfl rfl rfl hi8 dX9_bestChoices_44 ?_
        refine lv_aload_n hx hb dX9_bestChoices_45 rfl (lv_at hl 0 rfl) ?_
        refine r_getR (ci := 9) (C := RX9) (U := TX9) (N := 11) hx hb hts kX9_bestChoices_iX9 hown hK hw 4 (by decide) rfl rfl 6 (by decide) 63 rfl (hts _ kX9_bestChoices_f21) (fun _ h9 => h9) dX9_bestChoices_46 ?_
        refine lv_iload_n hx hb dX9_bestChoices_49 rfl (lv_at hl 1 rfl) ?_
        refine lv_iconst (v := (1 : Int32)) hx hb dX9_bestChoices_50 (by decide) ?_
        refine lv_iload hx hb dX9_bestChoices_51 (lv_at hl 4 rfl) ?_
        refine lv_ishl hx hb dX9_bestChoices_53 ?_
        refine lv_ior hx hb dX9_bestChoices_54 ?_
        refine lv_topi (fun x9 ex9 => ?_)
        replace h := lt_get h x9 ex9
        have hi10 := (gin_some h).1
        replace h := (gin_some h).2
        refine r_iald hx hb hK hw 63 0 ((sg4 99 63).toNatClampNeg) (by decide) rfl rfl rfl hi10 dX9_bestChoices_55 ?_
        refine lv_aload_n hx hb dX9_bestChoices_56 rfl (lv_at hl 0 rfl) ?_
        refine r_getR (ci := 9) (C := RX9) (U := TX9) (N := 11) hx hb hts kX9_bestChoices_iX9 hown hK hw 4 (by decide) rfl rfl 1 (by decide) 10 rfl (hts _ kX9_bestChoices_f47) (fun _ h9 => h9) dX9_bestChoices_57 ?_
        refine lv_iload_n hx hb dX9_bestChoices_60 rfl (lv_at hl 1 rfl) ?_
        refine lv_iload hx hb dX9_bestChoices_61 (lv_at hl 4 rfl) ?_
        obtain ⟨y11, sg12, hq13, h2⟩ := bnd2_some h
        replace h := h2
        clear h2
        refine r_cVi (As := [.int v1, .int v4]) (rest := [.int (sg4 63 x9.toNatClampNeg), .int (sg4 63 v1.toNatClampNeg)]) C hw 10 (by decide) (ci := 4) rfl rfl (mX4_costBelow l D T ad lg H.size v1 v4 sg4 hq13) (cwV 2 hts gX9_bestChoices_X4_costBelow rfl rfl rfl (by decide +kernel) ⟨Nat.le_of_ble_eq_true rfl, Nat.le_of_ble_eq_true rfl⟩) rfl hl.1 rfl (Nat.le_of_ble_eq_true rfl) dX9_bestChoices_63 ⟨Nat.le_of_ble_eq_true rfl, Nat.le_of_ble_eq_true rfl⟩ (fun ad' H locs hp hw => ?_)
        subst hp
        refine W.widen (k := 0) (n := 0) (by decide) (by decide) ?_
        refine lv_iadd hx hb dX9_bestChoices_66 ?_
        refine lv_icmp_ne (tgt := 77) hx hb dX9_bestChoices_67 (by decide) (fun c14 => ?_) (fun c14 => ?_)
        · replace h := ite_f h c14
          exact tX9_bestChoices_77 C hr11 v1 v2 v3 v4 sg12 _ _ _ hw (lv_sub hl [0, 1, 2, 3, 4] rfl) h
        · replace h := ite_t h c14
          refine lv_iload_n hx hb dX9_bestChoices_70 rfl (lv_at hl 3 rfl) ?_
          refine lv_iconst (v := (1 : Int32)) hx hb dX9_bestChoices_71 (by decide) ?_
          refine lv_iload hx hb dX9_bestChoices_72 (lv_at hl 4 rfl) ?_
          refine lv_ishl hx hb dX9_bestChoices_74 ?_
          refine lv_ior hx hb dX9_bestChoices_75 ?_
          refine lv_topi (fun x15 ex15 => ?_)
          replace h := lt_get h x15 ex15
          refine lv_istore_n (lv' := [(3, .int x15), (0, .ref (ad 4)), (1, .int v1), (2, .int v2), (4, .int v4)]) hx hb dX9_bestChoices_76 rfl hl (by decide) rfl (fun ls hl => ?_)
          exact tX9_bestChoices_77 C hr11 v1 v2 x15 v4 sg12 _ _ _ hw (lv_sub hl [1, 2, 3, 0, 4] rfl) h
def LX9_bestChoices_11  : (Int32 × Int32 × Int32 × Int32 × Sg) → Option (Int32 × Sg) := loop (fun rec z => fX9_bestChoices_11 rec z.1 z.2.1 z.2.2.1 z.2.2.2.1 z.2.2.2.2)
theorem TX9_bestChoices_11 (C : Cx p s m args meth c cX9_bestChoices 5 RX9 wsX9_bestChoices (some .int) D vwCl (tysC T) A true nwL) {ro : Int32} {so : Sg}   : ∀ (v1 : Int32) (v2 : Int32) (v3 : Int32) (v4 : Int32) (sg : Sg), LX9_bestChoices_11 (v1, v2, v3, v4, sg) = some (ro, so) → ∀ (H : Heap) (locs : List Loc) (ls : Array Slot), WS ZC D vwCl T ad sg lg A s.heap H locs → lv_has ls 5 [(0, .ref (ad 4)), (1, .int v1), (2, .int v2), (3, .int v3), (4, .int v4)] → W p l e rmX9_bestChoices s m args below meth c H locs 0 0 (MQ below (QI ZC D vwCl T (tysC T) A (fun z => ad = z) ro so lg) args s 0 0 A) (F0 m 11 ls []) := by
  have key : ∀ z : (Int32 × Int32 × Int32 × Int32 × Sg), LX9_bestChoices_11  z = some (ro, so) → ∀ (H : Heap) (locs : List Loc) (ls : Array Slot), WS ZC D vwCl T ad z.2.2.2.2 lg A s.heap H locs → lv_has ls 5 [(0, .ref (ad 4)), (1, .int z.1), (2, .int z.2.1), (3, .int z.2.2.1), (4, .int z.2.2.2.1)] → W p l e rmX9_bestChoices s m args below meth c H locs 0 0 (MQ below (QI ZC D vwCl T (tysC T) A (fun z => ad = z) ro so lg) args s 0 0 A) (F0 m 11 ls []) := by
    intro z h
    unfold LX9_bestChoices_11 at h
    exact loop_ind (fun rec z => fX9_bestChoices_11 rec z.1 z.2.1 z.2.2.1 z.2.2.2.1 z.2.2.2.2) (y := (ro, so)) (P := fun z => ∀ (H : Heap) (locs : List Loc) (ls : Array Slot), WS ZC D vwCl T ad z.2.2.2.2 lg A s.heap H locs → lv_has ls 5 [(0, .ref (ad 4)), (1, .int z.1), (2, .int z.2.1), (3, .int z.2.2.1), (4, .int z.2.2.2.1)] → W p l e rmX9_bestChoices s m args below meth c H locs 0 0 (MQ below (QI ZC D vwCl T (tysC T) A (fun z => ad = z) ro so lg) args s 0 0 A) (F0 m 11 ls [])) (fun rec hrec z h H locs ls hw hl => tX9_bestChoices_11 C  (fun v1 v2 v3 v4 sg => hrec (v1, v2, v3, v4, sg)) z.1 z.2.1 z.2.2.1 z.2.2.2.1 z.2.2.2.2 H locs ls hw hl h) z h
  exact fun v1 v2 v3 v4 sg => key (v1, v2, v3, v4, sg)
def fX9_bestChoices  (v1 : Int32) (sg : Sg) : Option (Int32 × Sg) :=
  bnd2 (fX9_choices v1 sg) (fun y1 sg2 => LX9_bestChoices_11 (v1, y1, (0 : Int32), (0 : Int32), sg2))
set_option maxHeartbeats 4000000 in
set_option maxRecDepth 100000 in
theorem tX9_bestChoices_0 (C : Cx p s m args meth c cX9_bestChoices 5 RX9 wsX9_bestChoices (some .int) D vwCl (tysC T) A true nwL) {ro : Int32} {so : Sg}   : ∀ (v1 : Int32) (sg : Sg), ∀ (H : Heap) (locs : List Loc) (ls : Array Slot), WS ZC D vwCl T ad sg lg A s.heap H locs → lv_has ls 5 [(0, .ref (ad 4)), (1, .int v1)] → fX9_bestChoices v1 sg = some (ro, so) → W p l e rmX9_bestChoices s m args below meth c H locs 0 0 (MQ below (QI ZC D vwCl T (tysC T) A (fun z => ad = z) ro so lg) args s 0 0 A) (F0 m 0 ls []) := by
  obtain ⟨⟨hx, hb, hml, hown, hts⟩, hr, hlk, hK, hA, hsp⟩ := id C
  intro v1 sg H locs ls hw hl h
  unfold fX9_bestChoices at h
  refine lv_aload_n hx hb dX9_bestChoices_0 rfl (lv_at hl 0 rfl) ?_
  refine lv_iload_n hx hb dX9_bestChoices_1 rfl (lv_at hl 1 rfl) ?_
  obtain ⟨y1, sg2, hq3, h2⟩ := bnd2_some h
  replace h := h2
  clear h2
  refine r_cVi (As := [.int v1]) (rest := []) C hw 4 (by decide) (ci := 9) rfl rfl (mX9_choices l D T ad lg H.size v1 sg hq3) (cwV 1 hts gX9_bestChoices_X9_choices rfl rfl rfl (by decide +kernel) ⟨Nat.le_of_ble_eq_true rfl, Nat.le_of_ble_eq_true rfl⟩) rfl hl.1 rfl (Nat.le_of_ble_eq_true rfl) dX9_bestChoices_2 ⟨Nat.le_of_ble_eq_true rfl, Nat.le_of_ble_eq_true rfl⟩ (fun ad' H locs hp hw => ?_)
  subst hp
  refine W.widen (k := 0) (n := 0) (by decide) (by decide) ?_
  refine lv_istore_n (lv' := [(2, .int y1), (0, .ref (ad 4)), (1, .int v1)]) hx hb dX9_bestChoices_5 rfl hl (by decide) rfl (fun ls hl => ?_)
  refine lv_iconst (v := (0 : Int32)) hx hb dX9_bestChoices_6 (by decide) ?_
  refine lv_istore_n (lv' := [(3, .int (0 : Int32)), (2, .int y1), (0, .ref (ad 4)), (1, .int v1)]) hx hb dX9_bestChoices_7 rfl hl (by decide) rfl (fun ls hl => ?_)
  refine lv_iconst (v := (0 : Int32)) hx hb dX9_bestChoices_8 (by decide) ?_
  refine lv_istore (lv' := [(4, .int (0 : Int32)), (3, .int (0 : Int32)), (2, .int y1), (0, .ref (ad 4)), (1, .int v1)]) hx hb dX9_bestChoices_9 hl (by decide) rfl (fun ls hl => ?_)
  exact TX9_bestChoices_11 C v1 y1 (0 : Int32) (0 : Int32) sg2 h _ _ _ hw (lv_sub hl [3, 4, 2, 1, 0] rfl)
theorem mX9_bestChoices (l : Launch) (D : va_G) (T : Nat → ClassId) (ad : Nat → Nat) (lg : Lg) (sz : Nat)   (v1 : Int32) (sg : Sg) {ro : Int32} {so : Sg} (h : fX9_bestChoices v1 sg = some (ro, so)) : Met l yX9_bestChoices wsX9_bestChoices rmX9_bestChoices (PreZ ZC D vwCl T (tysC T) ad sg lg true nwL [.ref (ad 4), .int v1] sz) (QI ZC D vwCl T (tysC T) (va_A (zwd ZC T ad sg lg) sz) (fun z => ad = z) ro so lg) 0 0 (va_A (zwd ZC T ad sg lg) sz) :=
  metZ [.ref (ad 4), .int v1] sz (by decide) rfl (Nat.le_of_ble_eq_true rfl) (fun p e s m below meth c ls C hw hl => tX9_bestChoices_0 C v1 sg _ _ _ hw hl h)
end ZC
