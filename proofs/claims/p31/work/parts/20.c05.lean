section ZC
variable {p : Program} {l : Launch} {e : Env} {s : State} {m : MethodId} {args : Array Value} {below : List Frame} {meth : Method} {c : Code} {D : va_G} {T : Nat → ClassId} {A : Nat → Prop} {ad a : Nat → Nat} {lg : Lg}
-- PeckYard$Halves.spreadUnion([III)V
def rmX4_spreadUnion_c27 : Room := { frames := 0, cells := 0, slots := 0, locals := 0 }
def fX4_spreadUnion_c27_7 (r7 : (Int32 × Int32 × Int32 × Sg) → Option (Sg)) (v2 : Int32) (v3 : Int32) (v4 : Int32) (sg : Sg) : Option (Sg) :=
  (if v3 ≤ v4 then some sg else gin v4 64 (lt ((sg 27 v4.toNatClampNeg) ||| v2) (fun x3 => gin (v3 + v4) 64 (lt (up2 sg 27 (v3 + v4).toNatClampNeg x3) (fun sg5 => lt (v4 + (1 : Int32)) (fun x6 => r7 (v2, v3, x6, sg5)))))))
set_option maxHeartbeats 4000000 in
set_option maxRecDepth 100000 in
theorem tX4_spreadUnion_c27_7 (C : Cx p s m args meth c cX4_spreadUnion 5 RX4 wsX4_spreadUnion none D vwCl (tysC T) A true nwL) {so : Sg} {r7 : (Int32 × Int32 × Int32 × Sg) → Option (Sg)} (hr7 : ∀ (v2 : Int32) (v3 : Int32) (v4 : Int32) (sg : Sg), r7 (v2, v3, v4, sg) = some so → ∀ (H : Heap) (locs : List Loc) (ls : Array Slot), WS ZC D vwCl T ad sg lg A s.heap H locs → lv_has ls 5 [(0, .ref (ad 27)), (2, .int v2), (3, .int v3), (4, .int v4)] → W p l e rmX4_spreadUnion_c27 s m args below meth c H locs 0 0 (MQ below (QV ZC D vwCl T (tysC T) A (fun z => ad = z) so lg) args s 0 0 A) (F0 m 7 ls [])) : ∀ (v2 : Int32) (v3 : Int32) (v4 : Int32) (sg : Sg), ∀ (H : Heap) (locs : List Loc) (ls : Array Slot), WS ZC D vwCl T ad sg lg A s.heap H locs → lv_has ls 5 [(0, .ref (ad 27)), (2, .int v2), (3, .int v3), (4, .int v4)] → fX4_spreadUnion_c27_7 r7 v2 v3 v4 sg = some so → W p l e rmX4_spreadUnion_c27 s m args below meth c H locs 0 0 (MQ below (QV ZC D vwCl T (tysC T) A (fun z => ad = z) so lg) args s 0 0 A) (F0 m 7 ls []) := by
  obtain ⟨⟨hx, hb, hml, hown, hts⟩, hr, hlk, hK, hA, hsp⟩ := id C
  intro v2 v3 v4 sg H locs ls hw hl h
  unfold fX4_spreadUnion_c27_7 at h
  refine lv_iload hx hb dX4_spreadUnion_7 (lv_at hl 3 rfl) ?_
  refine lv_iload_n hx hb dX4_spreadUnion_9 rfl (lv_at hl 2 rfl) ?_
  refine lv_icmp_ge (tgt := 31) hx hb dX4_spreadUnion_10 (by decide) (fun c1 => ?_) (fun c1 => ?_)
  · replace h := ite_t h c1
    cases h
    exact r_vret C hw rfl (by decide) (by decide) dX4_spreadUnion_31
  · replace h := ite_f h c1
    refine lv_aload_n hx hb dX4_spreadUnion_13 rfl (lv_at hl 0 rfl) ?_
    refine lv_iload_n hx hb dX4_spreadUnion_14 rfl (lv_at hl 2 rfl) ?_
    refine lv_iload hx hb dX4_spreadUnion_15 (lv_at hl 3 rfl) ?_
    refine lv_iadd hx hb dX4_spreadUnion_17 ?_
    refine lv_aload_n hx hb dX4_spreadUnion_18 rfl (lv_at hl 0 rfl) ?_
    refine lv_iload hx hb dX4_spreadUnion_19 (lv_at hl 3 rfl) ?_
    have hi2 := (gin_some h).1
    replace h := (gin_some h).2
    refine r_iald hx hb hK hw 27 0 64 (by decide) rfl rfl rfl hi2 dX4_spreadUnion_21 ?_
    refine lv_iload_n hx hb dX4_spreadUnion_22 rfl (lv_at hl 1 rfl) ?_
    refine lv_ior hx hb dX4_spreadUnion_23 ?_
    refine lv_topi (fun x3 ex3 => ?_)
    replace h := lt_get h x3 ex3
    have hi4 := (gin_some h).1
    replace h := (gin_some h).2
    refine r_iast ZC_ok hx hb hK hw 27 0 64 (by decide) rfl rfl rfl hi4 dX4_spreadUnion_24 (fun H locs sg5 esg5 hw => ?_)
    replace h := lt_get h sg5 esg5
    obtain ⟨x6, ex6⟩ : ∃ z : Int32, z = (v4 + (1 : Int32)) := ⟨_, rfl⟩
    replace h := lt_get h x6 ex6
    refine lv_iinc (v := x6) (lv' := [(4, .int x6), (0, .ref (ad 27)), (2, .int v2), (3, .int v3)]) hx hb dX4_spreadUnion_25 hl (k := 3) rfl (by rw [ex6]; rfl) (by decide) rfl (fun ls hl => ?_)
    refine lv_goto (tgt := 7) hx hb dX4_spreadUnion_28 (by decide) ?_
    exact hr7 v2 v3 x6 sg5 h _ _ _ hw (lv_sub hl [1, 2, 3, 0] rfl)
def LX4_spreadUnion_c27_7  : (Int32 × Int32 × Int32 × Sg) → Option (Sg) := loop (fun rec z => fX4_spreadUnion_c27_7 rec z.1 z.2.1 z.2.2.1 z.2.2.2)
theorem TX4_spreadUnion_c27_7 (C : Cx p s m args meth c cX4_spreadUnion 5 RX4 wsX4_spreadUnion none D vwCl (tysC T) A true nwL) {so : Sg}   : ∀ (v2 : Int32) (v3 : Int32) (v4 : Int32) (sg : Sg), LX4_spreadUnion_c27_7 (v2, v3, v4, sg) = some so → ∀ (H : Heap) (locs : List Loc) (ls : Array Slot), WS ZC D vwCl T ad sg lg A s.heap H locs → lv_has ls 5 [(0, .ref (ad 27)), (2, .int v2), (3, .int v3), (4, .int v4)] → W p l e rmX4_spreadUnion_c27 s m args below meth c H locs 0 0 (MQ below (QV ZC D vwCl T (tysC T) A (fun z => ad = z) so lg) args s 0 0 A) (F0 m 7 ls []) := by
  have key : ∀ z : (Int32 × Int32 × Int32 × Sg), LX4_spreadUnion_c27_7  z = some so → ∀ (H : Heap) (locs : List Loc) (ls : Array Slot), WS ZC D vwCl T ad z.2.2.2 lg A s.heap H locs → lv_has ls 5 [(0, .ref (ad 27)), (2, .int z.1), (3, .int z.2.1), (4, .int z.2.2.1)] → W p l e rmX4_spreadUnion_c27 s m args below meth c H locs 0 0 (MQ below (QV ZC D vwCl T (tysC T) A (fun z => ad = z) so lg) args s 0 0 A) (F0 m 7 ls []) := by
    intro z h
    unfold LX4_spreadUnion_c27_7 at h
    exact loop_ind (fun rec z => fX4_spreadUnion_c27_7 rec z.1 z.2.1 z.2.2.1 z.2.2.2) (y := so) (P := fun z => ∀ (H : Heap) (locs : List Loc) (ls : Array Slot), WS ZC D vwCl T ad z.2.2.2 lg A s.heap H locs → lv_has ls 5 [(0, .ref (ad 27)), (2, .int z.1), (3, .int z.2.1), (4, .int z.2.2.1)] → W p l e rmX4_spreadUnion_c27 s m args below meth c H locs 0 0 (MQ below (QV ZC D vwCl T (tysC T) A (fun z => ad = z) so lg) args s 0 0 A) (F0 m 7 ls [])) (fun rec hrec z h H locs ls hw hl => tX4_spreadUnion_c27_7 C  (fun v2 v3 v4 sg => hrec (v2, v3, v4, sg)) z.1 z.2.1 z.2.2.1 z.2.2.2 H locs ls hw hl h) z h
  exact fun v2 v3 v4 sg => key (v2, v3, v4, sg)
def fX4_spreadUnion_c27  (v1 : Int32) (v2 : Int32) (sg : Sg) : Option (Sg) :=
  lt ((1 : Int32) <<< (v1 &&& 31)) (fun x1 => LX4_spreadUnion_c27_7 (v2, x1, (0 : Int32), sg))
set_option maxHeartbeats 4000000 in
set_option maxRecDepth 100000 in
theorem tX4_spreadUnion_c27_0 (C : Cx p s m args meth c cX4_spreadUnion 5 RX4 wsX4_spreadUnion none D vwCl (tysC T) A true nwL) {so : Sg}   : ∀ (v1 : Int32) (v2 : Int32) (sg : Sg), ∀ (H : Heap) (locs : List Loc) (ls : Array Slot), WS ZC D vwCl T ad sg lg A s.heap H locs → lv_has ls 5 [(0, .ref (ad 27)), (1, .int v1), (2, .int v2)] → fX4_spreadUnion_c27 v1 v2 sg = some so → W p l e rmX4_spreadUnion_c27 s m args below meth c H locs 0 0 (MQ below (QV ZC D vwCl T (tysC T) A (fun z => ad = z) so lg) args s 0 0 A) (F0 m 0 ls []) := by
  obtain ⟨⟨hx, hb, hml, hown, hts⟩, hr, hlk, hK, hA, hsp⟩ := id C
  intro v1 v2 sg H locs ls hw hl h
  unfold fX4_spreadUnion_c27 at h
  refine lv_iconst (v := (1 : Int32)) hx hb dX4_spreadUnion_0 (by decide) ?_
  refine lv_iload_n hx hb dX4_spreadUnion_1 rfl (lv_at hl 1 rfl) ?_
  refine lv_ishl hx hb dX4_spreadUnion_2 ?_
  refine lv_topi (fun x1 ex1 => ?_)
  replace h := lt_get h x1 ex1
  refine lv_istore_n (lv' := [(3, .int x1), (0, .ref (ad 27)), (1, .int v1), (2, .int v2)]) hx hb dX4_spreadUnion_3 rfl hl (by decide) rfl (fun ls hl => ?_)
  refine lv_iconst (v := (0 : Int32)) hx hb dX4_spreadUnion_4 (by decide) ?_
  refine lv_istore (lv' := [(4, .int (0 : Int32)), (3, .int x1), (0, .ref (ad 27)), (1, .int v1), (2, .int v2)]) hx hb dX4_spreadUnion_5 hl (by decide) rfl (fun ls hl => ?_)
  exact TX4_spreadUnion_c27_7 C v2 x1 (0 : Int32) sg h _ _ _ hw (lv_sub hl [2, 4, 1, 0] rfl)
theorem mX4_spreadUnion_c27 (l : Launch) (D : va_G) (T : Nat → ClassId) (ad : Nat → Nat) (lg : Lg) (sz : Nat)   (v1 : Int32) (v2 : Int32) (sg : Sg) {so : Sg} (h : fX4_spreadUnion_c27 v1 v2 sg = some so) : Met l yX4_spreadUnion wsX4_spreadUnion rmX4_spreadUnion_c27 (PreZ ZC D vwCl T (tysC T) ad sg lg true nwL [.ref (ad 27), .int v1, .int v2] sz) (QV ZC D vwCl T (tysC T) (va_A (zwd ZC T ad sg lg) sz) (fun z => ad = z) so lg) 0 0 (va_A (zwd ZC T ad sg lg) sz) :=
  metZ [.ref (ad 27), .int v1, .int v2] sz (by decide) rfl (Nat.le_of_ble_eq_true rfl) (fun p e s m below meth c ls C hw hl => tX4_spreadUnion_c27_0 C v1 v2 sg _ _ _ hw hl h)
-- PeckYard$Halves.prepare()V
def rmX4_prepare : Room := { frames := 3, cells := 0, slots := 0, locals := 64 }
theorem kX4_prepare_f34 : Cond.fieldLink RX4 34 "PeckYard$Halves" "muster" "LPeckYard$Muster;" ∈ wsX4_prepare := by decide +kernel
theorem kX4_prepare_iX4 : ∀ w ∈ u_ws RX4 TX4 8, w ∈ wsX4_prepare := by decide +kernel
theorem kX4_prepare_f9 : Cond.fieldLink RX4 9 "PeckYard$Halves" "stamp" "I" ∈ wsX4_prepare := by decide +kernel
theorem kX4_prepare_f43 : Cond.fieldLink RX4 43 "PeckYard$Muster" "stamp" "I" ∈ wsX4_prepare := by decide +kernel
theorem kX4_prepare_iX8 : ∀ w ∈ u_ws RX8 TX8 10, w ∈ wsX4_prepare := by decide +kernel
theorem kX4_prepare_f44 : Cond.fieldLink RX4 44 "PeckYard$Muster" "size" "I" ∈ wsX4_prepare := by decide +kernel
theorem kX4_prepare_f25 : Cond.fieldLink RX4 25 "PeckYard$Halves" "highBelow" "[I" ∈ wsX4_prepare := by decide +kernel
theorem kX4_prepare_f47 : Cond.fieldLink RX4 47 "PeckYard$Muster" "below" "[I" ∈ wsX4_prepare := by decide +kernel
theorem kX4_prepare_f31 : Cond.fieldLink RX4 31 "PeckYard$Halves" "highPairs" "[I" ∈ wsX4_prepare := by decide +kernel
theorem kX4_prepare_f54 : Cond.fieldLink RX4 54 "PeckYard$Muster" "pairs" "[I" ∈ wsX4_prepare := by decide +kernel
theorem kX4_prepare_f19 : Cond.fieldLink RX4 19 "PeckYard$Halves" "highCost" "[I" ∈ wsX4_prepare := by decide +kernel
theorem kX4_prepare_f15 : Cond.fieldLink RX4 15 "PeckYard$Halves" "lowCost" "[I" ∈ wsX4_prepare := by decide +kernel
theorem kX4_prepare_f28 : Cond.fieldLink RX4 28 "PeckYard$Halves" "lowPairs" "[I" ∈ wsX4_prepare := by decide +kernel
theorem kX4_prepare_f22 : Cond.fieldLink RX4 22 "PeckYard$Halves" "lowBelow" "[I" ∈ wsX4_prepare := by decide +kernel
def fX4_prepare_130 (r35 : (Int32 × Sg) → Option (Sg)) (r130 : (Int32 × Int32 × Int32 × Int32 × Sg) → Option (Sg)) (v1 : Int32) (v2 : Int32) (v3 : Int32) (v4 : Int32) (sg : Sg) : Option (Sg) :=
  (if (sg 3 2) ≤ v4 then lt (v1 + (1 : Int32)) (fun x2 => r35 (x2, sg)) else (if v2 = 0 then bnd2 (fX8_peckOf v4 v1 sg) (fun y4 sg5 => bnd1 (fX4_spreadSum_c26 (v4 * (64 : Int32)) v3 y4 sg5) (fun sg7 => lt (v4 + (1 : Int32)) (fun x9 => r130 (v1, v2, v3, x9, sg7)))) else bnd2 (fX8_peckOf v4 v1 sg) (fun y10 sg11 => bnd1 (fX4_spreadSum_c25 (v4 * (64 : Int32)) v3 y10 sg11) (fun sg13 => lt (v4 + (1 : Int32)) (fun x15 => r130 (v1, v2, v3, x15, sg13))))))
set_option maxHeartbeats 4000000 in
set_option maxRecDepth 100000 in
theorem tX4_prepare_130 (C : Cx p s m args meth c cX4_prepare 5 RX4 wsX4_prepare none D vwCl (tysC T) A true nwL) {so : Sg} {r35 : (Int32 × Sg) → Option (Sg)} {r130 : (Int32 × Int32 × Int32 × Int32 × Sg) → Option (Sg)} (hr35 : ∀ (v1 : Int32) (sg : Sg), r35 (v1, sg) = some so → ∀ (H : Heap) (locs : List Loc) (ls : Array Slot), WS ZC D vwCl T ad sg lg A s.heap H locs → lv_has ls 5 [(0, .ref (ad 10)), (1, .int v1)] → W p l e rmX4_prepare s m args below meth c H locs 0 0 (MQ below (QV ZC D vwCl T (tysC T) A (fun z => ad = z) so lg) args s 0 0 A) (F0 m 35 ls [])) (hr130 : ∀ (v1 : Int32) (v2 : Int32) (v3 : Int32) (v4 : Int32) (sg : Sg), r130 (v1, v2, v3, v4, sg) = some so → ∀ (H : Heap) (locs : List Loc) (ls : Array Slot), WS ZC D vwCl T ad sg lg A s.heap H locs → lv_has ls 5 [(0, .ref (ad 10)), (1, .int v1), (2, .int v2), (3, .int v3), (4, .int v4)] → W p l e rmX4_prepare s m args below meth c H locs 0 0 (MQ below (QV ZC D vwCl T (tysC T) A (fun z => ad = z) so lg) args s 0 0 A) (F0 m 130 ls [])) : ∀ (v1 : Int32) (v2 : Int32) (v3 : Int32) (v4 : Int32) (sg : Sg), ∀ (H : Heap) (locs : List Loc) (ls : Array Slot), WS ZC D vwCl T ad sg lg A s.heap H locs → lv_has ls 5 [(0, .ref (ad 10)), (1, .int v1), (2, .int v2), (3, .int v3), (4, .int v4)] → fX4_prepare_130 r35 r130 v1 v2 v3 v4 sg = some so → W p l e rmX4_prepare s m args below meth c H locs 0 0 (MQ below (QV ZC D vwCl T (tysC T) A (fun z => ad = z) so lg) args s 0 0 A) (F0 m 130 ls []) := by
  obtain ⟨⟨hx, hb, hml, hown, hts⟩, hr, hlk, hK, hA, hsp⟩ := id C
  intro v1 v2 v3 v4 sg H locs ls hw hl h
  unfold fX4_prepare_130 at h
  refine lv_iload hx hb dX4_prepare_130 (lv_at hl 4 rfl) ?_
  refine lv_aload_n hx hb dX4_prepare_132 rfl (lv_at hl 0 rfl) ?_
  refine r_getR (ci := 4) (C := RX4) (U := TX4) (N := 8) hx hb hts kX4_prepare_iX4 hown hK hw 10 (by decide) rfl rfl 0 (by decide) 3 rfl (hts _ kX4_prepare_f34) (fun _ h9 => h9) dX4_prepare_133 ?_
  refine r_getI (ci := 8) (C := RX8) (U := TX8) (N := 10) hx hb hts kX4_prepare_iX8 hown hK hw 3 (by decide) rfl rfl 2 (by decide) rfl (hts _ kX4_prepare_f44) (fun _ h9 => h9) dX4_prepare_136 ?_
  refine lv_icmp_ge (tgt := 182) hx hb dX4_prepare_139 (by decide) (fun c1 => ?_) (fun c1 => ?_)
  · replace h := ite_t h c1
    obtain ⟨x2, ex2⟩ : ∃ z : Int32, z = (v1 + (1 : Int32)) := ⟨_, rfl⟩
    replace h := lt_get h x2 ex2
    refine lv_iinc (v := x2) (lv' := [(1, .int x2), (0, .ref (ad 10)), (2, .int v2), (3, .int v3), (4, .int v4)]) hx hb dX4_prepare_182 hl (k := 1) rfl (by rw [ex2]; rfl) (by decide) rfl (fun ls hl => ?_)
    refine lv_goto (tgt := 35) hx hb dX4_prepare_185 (by decide) ?_
    exact hr35 x2 sg h _ _ _ hw (lv_sub hl [1, 0] rfl)
  · replace h := ite_f h c1
    refine lv_iload_n hx hb dX4_prepare_142 rfl (lv_at hl 2 rfl) ?_
    refine lv_if_eq (tgt := 153) hx hb dX4_prepare_143 (by decide) (fun c3 => ?_) (fun c3 => ?_)
    · replace h := ite_t h c3
      refine lv_aload_n hx hb dX4_prepare_153 rfl (lv_at hl 0 rfl) ?_
      refine r_getR (ci := 4) (C := RX4) (U := TX4) (N := 8) hx hb hts kX4_prepare_iX4 hown hK hw 10 (by decide) rfl rfl 3 (by decide) 26 rfl (hts _ kX4_prepare_f19) (fun _ h9 => h9) dX4_prepare_154 ?_
      refine lv_iload hx hb dX4_prepare_157 (lv_at hl 4 rfl) ?_
      refine lv_bipush (v := (64 : Int32)) hx hb dX4_prepare_159 (by decide) ?_
      refine lv_imul hx hb dX4_prepare_161 ?_
      refine lv_iload_n hx hb dX4_prepare_162 rfl (lv_at hl 3 rfl) ?_
      refine lv_aload_n hx hb dX4_prepare_163 rfl (lv_at hl 0 rfl) ?_
      refine r_getR (ci := 4) (C := RX4) (U := TX4) (N := 8) hx hb hts kX4_prepare_iX4 hown hK hw 10 (by decide) rfl rfl 0 (by decide) 3 rfl (hts _ kX4_prepare_f34) (fun _ h9 => h9) dX4_prepare_164 ?_
      refine lv_iload hx hb dX4_prepare_167 (lv_at hl 4 rfl) ?_
      refine lv_iload_n hx hb dX4_prepare_169 rfl (lv_at hl 1 rfl) ?_
      obtain ⟨y4, sg5, hq6, h2⟩ := bnd2_some h
      replace h := h2
      clear h2
      refine r_cVi (As := [.int v4, .int v1]) (rest := [.int v3, .int (v4 * (64 : Int32)), .ref (ad 26)]) C hw 3 (by decide) (ci := 8) rfl rfl (mX8_peckOf l D T ad lg H.size v4 v1 sg hq6) (cwV 2 hts gX4_prepare_X8_peckOf rfl rfl rfl (by decide +kernel) ⟨Nat.le_of_ble_eq_true rfl, Nat.le_of_ble_eq_true rfl⟩) rfl hl.1 rfl (Nat.le_of_ble_eq_true rfl) dX4_prepare_170 ⟨Nat.le_of_ble_eq_true rfl, Nat.le_of_ble_eq_true rfl⟩ (fun ad' H locs hp hw => ?_)
      subst hp
      refine W.widen (k := 0) (n := 0) (by decide) (by decide) ?_
      obtain ⟨sg7, hq8, h2⟩ := bnd1_some h
      replace h := h2
      clear h2
      refine r_cSv (As := [.ref (ad 26), .int (v4 * (64 : Int32)), .int v3, .int y4]) (rest := []) C hw (mX4_spreadSum_c26 l D T ad lg H.size (v4 * (64 : Int32)) v3 y4 sg5 hq8) (va_cwS 4 hts gX4_prepare_X4_spreadSum rfl rfl rfl (by decide +kernel) ⟨Nat.le_of_ble_eq_true rfl, Nat.le_of_ble_eq_true rfl⟩) rfl hl.1 rfl (Nat.le_of_ble_eq_true rfl) dX4_prepare_173 ⟨Nat.le_of_ble_eq_true rfl, Nat.le_of_ble_eq_true rfl⟩ (fun ad' H locs hp hw => ?_)
      subst hp
      refine W.widen (k := 0) (n := 0) (by decide) (by decide) ?_
      obtain ⟨x9, ex9⟩ : ∃ z : Int32, z = (v4 + (1 : Int32)) := ⟨_, rfl⟩
      replace h := lt_get h x9 ex9
      refine lv_iinc (v := x9) (lv' := [(4, .int x9), (0, .ref (ad 10)), (1, .int v1), (2, .int v2), (3, .int v3)]) hx hb dX4_prepare_176 hl (k := 4) rfl (by rw [ex9]; rfl) (by decide) rfl (fun ls hl => ?_)
      refine lv_goto (tgt := 130) hx hb dX4_prepare_179 (by decide) ?_
      exact hr130 v1 v2 v3 x9 sg7 h _ _ _ hw (lv_sub hl [1, 2, 3, 4, 0] rfl)
    · replace h := ite_f h c3
      refine lv_aload_n hx hb dX4_prepare_146 rfl (lv_at hl 0 rfl) ?_
      refine r_getR (ci := 4) (C := RX4) (U := TX4) (N := 8) hx hb hts kX4_prepare_iX4 hown hK hw 10 (by decide) rfl rfl 2 (by decide) 25 rfl (hts _ kX4_prepare_f15) (fun _ h9 => h9) dX4_prepare_147 ?_
      refine lv_goto (tgt := 157) hx hb dX4_prepare_150 (by decide) ?_
      refine lv_iload hx hb dX4_prepare_157 (lv_at hl 4 rfl) ?_
      refine lv_bipush (v := (64 : Int32)) hx hb dX4_prepare_159 (by decide) ?_
      refine lv_imul hx hb dX4_prepare_161 ?_
      refine lv_iload_n hx hb dX4_prepare_162 rfl (lv_at hl 3 rfl) ?_
      refine lv_aload_n hx hb dX4_prepare_163 rfl (lv_at hl 0 rfl) ?_
      refine r_getR (ci := 4) (C := RX4) (U := TX4) (N := 8) hx hb hts kX4_prepare_iX4 hown hK hw 10 (by decide) rfl rfl 0 (by decide) 3 rfl (hts _ kX4_prepare_f34) (fun _ h9 => h9) dX4_prepare_164 ?_
      refine lv_iload hx hb dX4_prepare_167 (lv_at hl 4 rfl) ?_
      refine lv_iload_n hx hb dX4_prepare_169 rfl (lv_at hl 1 rfl) ?_
      obtain ⟨y10, sg11, hq12, h2⟩ := bnd2_some h
      replace h := h2
      clear h2
      refine r_cVi (As := [.int v4, .int v1]) (rest := [.int v3, .int (v4 * (64 : Int32)), .ref (ad 25)]) C hw 3 (by decide) (ci := 8) rfl rfl (mX8_peckOf l D T ad lg H.size v4 v1 sg hq12) (cwV 2 hts gX4_prepare_X8_peckOf rfl rfl rfl (by decide +kernel) ⟨Nat.le_of_ble_eq_true rfl, Nat.le_of_ble_eq_true rfl⟩) rfl hl.1 rfl (Nat.le_of_ble_eq_true rfl) dX4_prepare_170 ⟨Nat.le_of_ble_eq_true rfl, Nat.le_of_ble_eq_true rfl⟩ (fun ad' H locs hp hw => ?_)
      subst hp
      refine W.widen (k := 0) (n := 0) (by decide) (by decide) ?_
      obtain ⟨sg13, hq14, h2⟩ := bnd1_some h
      replace h := h2
      clear h2
      refine r_cSv (As := [.ref (ad 25), .int (v4 * (64 : Int32)), .int v3, .int y10]) (rest := []) C hw (mX4_spreadSum_c25 l D T ad lg H.size (v4 * (64 : Int32)) v3 y10 sg11 hq14) (va_cwS 4 hts gX4_prepare_X4_spreadSum rfl rfl rfl (by decide +kernel) ⟨Nat.le_of_ble_eq_true rfl, Nat.le_of_ble_eq_true rfl⟩) rfl hl.1 rfl (Nat.le_of_ble_eq_true rfl) dX4_prepare_173 ⟨Nat.le_of_ble_eq_true rfl, Nat.le_of_ble_eq_true rfl⟩ (fun ad' H locs hp hw => ?_)
      subst hp
      refine W.widen (k := 0) (n := 0) (by decide) (by decide) ?_
      obtain ⟨x15, ex15⟩ : ∃ z : Int32, z = (v4 + (1 : Int32)) := ⟨_, rfl⟩
      replace h := lt_get h x15 ex15
      refine lv_iinc (v := x15) (lv' := [(4, .int x15), (0, .ref (ad 10)), (1, .int v1), (2, .int v2), (3, .int v3)]) hx hb dX4_prepare_176 hl (k := 4) rfl (by rw [ex15]; rfl) (by decide) rfl (fun ls hl => ?_)
      refine lv_goto (tgt := 130) hx hb dX4_prepare_179 (by decide) ?_
      exact hr130 v1 v2 v3 x15 sg13 h _ _ _ hw (lv_sub hl [1, 2, 3, 4, 0] rfl)
def LX4_prepare_130 (r35 : (Int32 × Sg) → Option (Sg)) : (Int32 × Int32 × Int32 × Int32 × Sg) → Option (Sg) := loop (fun rec z => fX4_prepare_130 r35 rec z.1 z.2.1 z.2.2.1 z.2.2.2.1 z.2.2.2.2)
theorem TX4_prepare_130 (C : Cx p s m args meth c cX4_prepare 5 RX4 wsX4_prepare none D vwCl (tysC T) A true nwL) {so : Sg} {r35 : (Int32 × Sg) → Option (Sg)} (hr35 : ∀ (v1 : Int32) (sg : Sg), r35 (v1, sg) = some so → ∀ (H : Heap) (locs : List Loc) (ls : Array Slot), WS ZC D vwCl T ad sg lg A s.heap H locs → lv_has ls 5 [(0, .ref (ad 10)), (1, .int v1)] → W p l e rmX4_prepare s m args below meth c H locs 0 0 (MQ below (QV ZC D vwCl T (tysC T) A (fun z => ad = z) so lg) args s 0 0 A) (F0 m 35 ls [])) : ∀ (v1 : Int32) (v2 : Int32) (v3 : Int32) (v4 : Int32) (sg : Sg), LX4_prepare_130 r35 (v1, v2, v3, v4, sg) = some so → ∀ (H : Heap) (locs : List Loc) (ls : Array Slot), WS ZC D vwCl T ad sg lg A s.heap H locs → lv_has ls 5 [(0, .ref (ad 10)), (1, .int v1), (2, .int v2), (3, .int v3), (4, .int v4)] → W p l e rmX4_prepare s m args below meth c H locs 0 0 (MQ below (QV ZC D vwCl T (tysC T) A (fun z => ad = z) so lg) args s 0 0 A) (F0 m 130 ls []) := by
  have key : ∀ z : (Int32 × Int32 × Int32 × Int32 × Sg), LX4_prepare_130 r35 z = some so → ∀ (H : Heap) (locs : List Loc) (ls : Array Slot), WS ZC D vwCl T ad z.2.2.2.2 lg A s.heap H locs → lv_has ls 5 [(0, .ref (ad 10)), (1, .int z.1), (2, .int z.2.1), (3, .int z.2.2.1), (4, .int z.2.2.2.1)] → W p l e rmX4_prepare s m args below meth c H locs 0 0 (MQ below (QV ZC D vwCl T (tysC T) A (fun z => ad = z) so lg) args s 0 0 A) (F0 m 130 ls []) := by
    intro z h
    unfold LX4_prepare_130 at h
    exact loop_ind (fun rec z => fX4_prepare_130 r35 rec z.1 z.2.1 z.2.2.1 z.2.2.2.1 z.2.2.2.2) (y := so) (P := fun z => ∀ (H : Heap) (locs : List Loc) (ls : Array Slot), WS ZC D vwCl T ad z.2.2.2.2 lg A s.heap H locs → lv_has ls 5 [(0, .ref (ad 10)), (1, .int z.1), (2, .int z.2.1), (3, .int z.2.2.1), (4, .int z.2.2.2.1)] → W p l e rmX4_prepare s m args below meth c H locs 0 0 (MQ below (QV ZC D vwCl T (tysC T) A (fun z => ad = z) so lg) args s 0 0 A) (F0 m 130 ls [])) (fun rec hrec z h H locs ls hw hl => tX4_prepare_130 C hr35 (fun v1 v2 v3 v4 sg => hrec (v1, v2, v3, v4, sg)) z.1 z.2.1 z.2.2.1 z.2.2.2.1 z.2.2.2.2 H locs ls hw hl h) z h
  exact fun v1 v2 v3 v4 sg => key (v1, v2, v3, v4, sg)
def fX4_prepare_70 (r35 : (Int32 × Sg) → Option (Sg)) (v1 : Int32) (v2 : Int32) (w0 : Int32) (sg : Sg) : Option (Sg) :=
  (if v2 = 0 then gin v1 12 (bnd1 (fX4_spreadUnion_c28 w0 (sg 21 v1.toNatClampNeg) sg) (fun sg3 => (if v2 = 0 then gin v1 12 (bnd1 (fX4_spreadUnion_c30 w0 (sg3 22 v1.toNatClampNeg) sg3) (fun sg7 => LX4_prepare_130 r35 (v1, v2, w0, (0 : Int32), sg7))) else gin v1 12 (bnd1 (fX4_spreadUnion_c29 w0 (sg3 22 v1.toNatClampNeg) sg3) (fun sg10 => LX4_prepare_130 r35 (v1, v2, w0, (0 : Int32), sg10)))))) else gin v1 12 (bnd1 (fX4_spreadUnion_c27 w0 (sg 21 v1.toNatClampNeg) sg) (fun sg13 => (if v2 = 0 then gin v1 12 (bnd1 (fX4_spreadUnion_c30 w0 (sg13 22 v1.toNatClampNeg) sg13) (fun sg17 => LX4_prepare_130 r35 (v1, v2, w0, (0 : Int32), sg17))) else gin v1 12 (bnd1 (fX4_spreadUnion_c29 w0 (sg13 22 v1.toNatClampNeg) sg13) (fun sg20 => LX4_prepare_130 r35 (v1, v2, w0, (0 : Int32), sg20)))))))
set_option maxHeartbeats 4000000 in
set_option maxRecDepth 100000 in
theorem tX4_prepare_70 (C : Cx p s m args meth c cX4_prepare 5 RX4 wsX4_prepare none D vwCl (tysC T) A true nwL) {so : Sg} {r35 : (Int32 × Sg) → Option (Sg)} (hr35 : ∀ (v1 : Int32) (sg : Sg), r35 (v1, sg) = some so → ∀ (H : Heap) (locs : List Loc) (ls : Array Slot), WS ZC D vwCl T ad sg lg A s.heap H locs → lv_has ls 5 [(0, .ref (ad 10)), (1, .int v1)] → W p l e rmX4_prepare s m args below meth c H locs 0 0 (MQ below (QV ZC D vwCl T (tysC T) A (fun z => ad = z) so lg) args s 0 0 A) (F0 m 35 ls [])) : ∀ (v1 : Int32) (v2 : Int32) (w0 : Int32) (sg : Sg), ∀ (H : Heap) (locs : List Loc) (ls : Array Slot), WS ZC D vwCl T ad sg lg A s.heap H locs → lv_has ls 5 [(0, .ref (ad 10)), (1, .int v1), (2, .int v2)] → fX4_prepare_70 r35 v1 v2 w0 sg = some so → W p l e rmX4_prepare s m args below meth c H locs 0 0 (MQ below (QV ZC D vwCl T (tysC T) A (fun z => ad = z) so lg) args s 0 0 A) (F0 m 70 ls [.int w0]) := by
  obtain ⟨⟨hx, hb, hml, hown, hts⟩, hr, hlk, hK, hA, hsp⟩ := id C
  intro v1 v2 w0 sg H locs ls hw hl h
  unfold fX4_prepare_70 at h
  refine lv_istore_n (lv' := [(3, .int w0), (0, .ref (ad 10)), (1, .int v1), (2, .int v2)]) hx hb dX4_prepare_70 rfl hl (by decide) rfl (fun ls hl => ?_)
  refine lv_iload_n hx hb dX4_prepare_71 rfl (lv_at hl 3 rfl) ?_
  refine lv_if_eq (tgt := 82) hx hb dX4_prepare_72 (by decide) (fun c1 => ?_) (fun c1 => ?_)
  · replace h := ite_t h c1
    refine lv_aload_n hx hb dX4_prepare_82 rfl (lv_at hl 1 rfl) ?_
    refine r_getR (ci := 4) (C := RX4) (U := TX4) (N := 8) hx hb hts kX4_prepare_iX4 hown hK hw 10 (by decide) rfl rfl 5 (by decide) 28 rfl (hts _ kX4_prepare_f25) (fun _ h9 => h9) dX4_prepare_83 ?_
    refine lv_iload_n hx hb dX4_prepare_86 rfl (lv_at hl 0 rfl) ?_
    refine lv_aload_n hx hb dX4_prepare_87 rfl (lv_at hl 1 rfl) ?_
    refine r_getR (ci := 4) (C := RX4) (U := TX4) (N := 8) hx hb hts kX4_prepare_iX4 hown hK hw 10 (by decide) rfl rfl 0 (by decide) 3 rfl (hts _ kX4_prepare_f34) (fun _ h9 => h9) dX4_prepare_88 ?_
    refine r_getR (ci := 8) (C := RX8) (U := TX8) (N := 10) hx hb hts kX4_prepare_iX8 hown hK hw 3 (by decide) rfl rfl 7 (by decide) 21 rfl (hts _ kX4_prepare_f47) (fun _ h9 => h9) dX4_prepare_91 ?_
    refine lv_iload_n hx hb dX4_prepare_94 rfl (lv_at hl 2 rfl) ?_
    have hi2 := (gin_some h).1
    replace h := (gin_some h).2
    refine r_iald hx hb hK hw 21 0 12 (by decide) rfl rfl rfl hi2 dX4_prepare_95 ?_
    obtain ⟨sg3, hq4, h2⟩ := bnd1_some h
    replace h := h2
    clear h2
    refine r_cSv (As := [.ref (ad 28), .int w0, .int (sg 21 v1.toNatClampNeg)]) (rest := []) C hw (mX4_spreadUnion_c28 l D T ad lg H.size w0 (sg 21 v1.toNatClampNeg) sg hq4) (va_cwS 3 hts gX4_prepare_X4_spreadUnion rfl rfl rfl (by decide +kernel) ⟨Nat.le_of_ble_eq_true rfl, Nat.le_of_ble_eq_true rfl⟩) rfl hl.1 rfl (Nat.le_of_ble_eq_true rfl) dX4_prepare_96 ⟨Nat.le_of_ble_eq_true rfl, Nat.le_of_ble_eq_true rfl⟩ (fun ad' H locs hp hw => ?_)
    subst hp
    refine W.widen (k := 0) (n := 0) (by decide) (by decide) ?_
    refine lv_iload_n hx hb dX4_prepare_99 rfl (lv_at hl 3 rfl) ?_
    refine lv_if_eq (tgt := 110) hx hb dX4_prepare_100 (by decide) (fun c5 => ?_) (fun c5 => ?_)
    · replace h := ite_t h c5
      refine lv_aload_n hx hb dX4_prepare_110 rfl (lv_at hl 1 rfl) ?_
      refine r_getR (ci := 4) (C := RX4) (U := TX4) (N := 8) hx hb hts kX4_prepare_iX4 hown hK hw 10 (by decide) rfl rfl 7 (by decide) 30 rfl (hts _ kX4_prepare_f31) (fun _ h9 => h9) dX4_prepare_111 ?_
      refine lv_iload_n hx hb dX4_prepare_114 rfl (lv_at hl 0 rfl) ?_
      refine lv_aload_n hx hb dX4_prepare_115 rfl (lv_at hl 1 rfl) ?_
      refine r_getR (ci := 4) (C := RX4) (U := TX4) (N := 8) hx hb hts kX4_prepare_iX4 hown hK hw 10 (by decide) rfl rfl 0 (by decide) 3 rfl (hts _ kX4_prepare_f34) (fun _ h9 => h9) dX4_prepare_116 ?_
      refine r_getR (ci := 8) (C := RX8) (U := TX8) (N := 10) hx hb hts kX4_prepare_iX8 hown hK hw 3 (by decide) rfl rfl 8 (by decide) 22 rfl (hts _ kX4_prepare_f54) (fun _ h9 => h9) dX4_prepare_119 ?_
      refine lv_iload_n hx hb dX4_prepare_122 rfl (lv_at hl 2 rfl) ?_
      have hi6 := (gin_some h).1
      replace h := (gin_some h).2
      refine r_iald hx hb hK hw 22 0 12 (by decide) rfl rfl rfl hi6 dX4_prepare_123 ?_
      obtain ⟨sg7, hq8, h2⟩ := bnd1_some h
      replace h := h2
      clear h2
      refine r_cSv (As := [.ref (ad 30), .int w0, .int (sg3 22 v1.toNatClampNeg)]) (rest := []) C hw (mX4_spreadUnion_c30 l D T ad lg H.size w0 (sg3 22 v1.toNatClampNeg) sg3 hq8) (va_cwS 3 hts gX4_prepare_X4_spreadUnion rfl rfl rfl (by decide +kernel) ⟨Nat.le_of_ble_eq_true rfl, Nat.le_of_ble_eq_true rfl⟩) rfl hl.1 rfl (Nat.le_of_ble_eq_true rfl) dX4_prepare_124 ⟨Nat.le_of_ble_eq_true rfl, Nat.le_of_ble_eq_true rfl⟩ (fun ad' H locs hp hw => ?_)
      subst hp
      refine W.widen (k := 0) (n := 0) (by decide) (by decide) ?_
      refine lv_iconst (v := (0 : Int32)) hx hb dX4_prepare_127 (by decide) ?_
      refine lv_istore (lv' := [(4, .int (0 : Int32)), (3, .int w0), (0, .ref (ad 10)), (1, .int v1), (2, .int v2)]) hx hb dX4_prepare_128 hl (by decide) rfl (fun ls hl => ?_)
      exact TX4_prepare_130 C hr35 v1 v2 w0 (0 : Int32) sg7 h _ _ _ hw (lv_sub hl [2, 3, 4, 1, 0] rfl)
    · replace h := ite_f h c5
      refine lv_aload_n hx hb dX4_prepare_103 rfl (lv_at hl 1 rfl) ?_
      refine r_getR (ci := 4) (C := RX4) (U := TX4) (N := 8) hx hb hts kX4_prepare_iX4 hown hK hw 10 (by decide) rfl rfl 6 (by decide) 29 rfl (hts _ kX4_prepare_f28) (fun _ h9 => h9) dX4_prepare_104 ?_
      refine lv_goto (tgt := 114) hx hb dX4_prepare_107 (by decide) ?_
      refine lv_iload_n hx hb dX4_prepare_114 rfl (lv_at hl 0 rfl) ?_
      refine lv_aload_n hx hb dX4_prepare_115 rfl (lv_at hl 1 rfl) ?_
      refine r_getR (ci := 4) (C := RX4) (U := TX4) (N := 8) hx hb hts kX4_prepare_iX4 hown hK hw 10 (by decide) rfl rfl 0 (by decide) 3 rfl (hts _ kX4_prepare_f34) (fun _ h9 => h9) dX4_prepare_116 ?_
      refine r_getR (ci := 8) (C := RX8) (U := TX8) (N := 10) hx hb hts kX4_prepare_iX8 hown hK hw 3 (by decide) rfl rfl 8 (by decide) 22 rfl (hts _ kX4_prepare_f54) (fun _ h9 => h9) dX4_prepare_119 ?_
      refine lv_iload_n hx hb dX4_prepare_122 rfl (lv_at hl 2 rfl) ?_
      have hi9 := (gin_some h).1
      replace h := (gin_some h).2
      refine r_iald hx hb hK hw 22 0 12 (by decide) rfl rfl rfl hi9 dX4_prepare_123 ?_
      obtain ⟨sg10, hq11, h2⟩ := bnd1_some h
      replace h := h2
      clear h2
      refine r_cSv (As := [.ref (ad 29), .int w0, .int (sg3 22 v1.toNatClampNeg)]) (rest := []) C hw (mX4_spreadUnion_c29 l D T ad lg H.size w0 (sg3 22 v1.toNatClampNeg) sg3 hq11) (va_cwS 3 hts gX4_prepare_X4_spreadUnion rfl rfl rfl (by decide +kernel) ⟨Nat.le_of_ble_eq_true rfl, Nat.le_of_ble_eq_true rfl⟩) rfl hl.1 rfl (Nat.le_of_ble_eq_true rfl) dX4_prepare_124 ⟨Nat.le_of_ble_eq_true rfl, Nat.le_of_ble_eq_true rfl⟩ (fun ad' H locs hp hw => ?_)
      subst hp
      refine W.widen (k := 0) (n := 0) (by decide) (by decide) ?_
      refine lv_iconst (v := (0 : Int32)) hx hb dX4_prepare_127 (by decide) ?_
      refine lv_istore (lv' := [(4, .int (0 : Int32)), (3, .int w0), (0, .ref (ad 10)), (1, .int v1), (2, .int v2)]) hx hb dX4_prepare_128 hl (by decide) rfl (fun ls hl => ?_)
      exact TX4_prepare_130 C hr35 v1 v2 w0 (0 : Int32) sg10 h _ _ _ hw (lv_sub hl [2, 3, 4, 1, 0] rfl)
  · replace h := ite_f h c1
    refine lv_aload_n hx hb dX4_prepare_75 rfl (lv_at hl 1 rfl) ?_
    refine r_getR (ci := 4) (C := RX4) (U := TX4) (N := 8) hx hb hts kX4_prepare_iX4 hown hK hw 10 (by decide) rfl rfl 4 (by decide) 27 rfl (hts _ kX4_prepare_f22) (fun _ h9 => h9) dX4_prepare_76 ?_
    refine lv_goto (tgt := 86) hx hb dX4_prepare_79 (by decide) ?_
    refine lv_iload_n hx hb dX4_prepare_86 rfl (lv_at hl 0 rfl) ?_
    refine lv_aload_n hx hb dX4_prepare_87 rfl (lv_at hl 1 rfl) ?_
    refine r_getR (ci := 4) (C := RX4) (U := TX4) (N := 8) hx hb hts kX4_prepare_iX4 hown hK hw 10 (by decide) rfl rfl 0 (by decide) 3 rfl (hts _ kX4_prepare_f34) (fun _ h9 => h9) dX4_prepare_88 ?_
    refine r_getR (ci := 8) (C := RX8) (U := TX8) (N := 10) hx hb hts kX4_prepare_iX8 hown hK hw 3 (by decide) rfl rfl 7 (by decide) 21 rfl (hts _ kX4_prepare_f47) (fun _ h9 => h9) dX4_prepare_91 ?_
    refine lv_iload_n hx hb dX4_prepare_94 rfl (lv_at hl 2 rfl) ?_
    have hi12 := (gin_some h).1
    replace h := (gin_some h).2
    refine r_iald hx hb hK hw 21 0 12 (by decide) rfl rfl rfl hi12 dX4_prepare_95 ?_
    obtain ⟨sg13, hq14, h2⟩ := bnd1_some h
    replace h := h2
    clear h2
    refine r_cSv (As := [.ref (ad 27), .int w0, .int (sg 21 v1.toNatClampNeg)]) (rest := []) C hw (mX4_spreadUnion_c27 l D T ad lg H.size w0 (sg 21 v1.toNatClampNeg) sg hq14) (va_cwS 3 hts gX4_prepare_X4_spreadUnion rfl rfl rfl (by decide +kernel) ⟨Nat.le_of_ble_eq_true rfl, Nat.le_of_ble_eq_true rfl⟩) rfl hl.1 rfl (Nat.le_of_ble_eq_true rfl) dX4_prepare_96 ⟨Nat.le_of_ble_eq_true rfl, Nat.le_of_ble_eq_true rfl⟩ (fun ad' H locs hp hw => ?_)
    subst hp
    refine W.widen (k := 0) (n := 0) (by decide) (by decide) ?_
    refine lv_iload_n hx hb dX4_prepare_99 rfl (lv_at hl 3 rfl) ?_
    refine lv_if_eq (tgt := 110) hx hb dX4_prepare_100 (by decide) (fun c15 => ?_) (fun c15 => ?_)
    · replace h := ite_t h c15
      refine lv_aload_n hx hb dX4_prepare_110 rfl (lv_at hl 1 rfl) ?_
      refine r_getR (ci := 4) (C := RX4) (U := TX4) (N := 8) hx hb hts kX4_prepare_iX4 hown hK hw 10 (by decide) rfl rfl 7 (by decide) 30 rfl (hts _ kX4_prepare_f31) (fun _ h9 => h9) dX4_prepare_111 ?_
      refine lv_iload_n hx hb dX4_prepare_114 rfl (lv_at hl 0 rfl) ?_
      refine lv_aload_n hx hb dX4_prepare_115 rfl (lv_at hl 1 rfl) ?_
      refine r_getR (ci := 4) (C := RX4) (U := TX4) (N := 8) hx hb hts kX4_prepare_iX4 hown hK hw 10 (by decide) rfl rfl 0 (by decide) 3 rfl (hts _ kX4_prepare_f34) (fun _ h9 => h9) dX4_prepare_116 ?_
      refine r_getR (ci := 8) (C := RX8) (U := TX8) (N := 10) hx hb hts kX4_prepare_iX8 hown hK hw 3 (by decide) rfl rfl 8 (by decide) 22 rfl (hts _ kX4_prepare_f54) (fun _ h9 => h9) dX4_prepare_119 ?_
      refine lv_iload_n hx hb dX4_prepare_122 rfl (lv_at hl 2 rfl) ?_
      have hi16 := (gin_some h).1
      replace h := (gin_some h).2
      refine r_iald hx hb hK hw 22 0 12 (by decide) rfl rfl rfl hi16 dX4_prepare_123 ?_
      obtain ⟨sg17, hq18, h2⟩ := bnd1_some h
      replace h := h2
      clear h2
      refine r_cSv (As := [.ref (ad 30), .int w0, .int (sg13 22 v1.toNatClampNeg)]) (rest := []) C hw (mX4_spreadUnion_c30 l D T ad lg H.size w0 (sg13 22 v1.toNatClampNeg) sg13 hq18) (va_cwS 3 hts gX4_prepare_X4_spreadUnion rfl rfl rfl (by decide +kernel) ⟨Nat.le_of_ble_eq_true rfl, Nat.le_of_ble_eq_true rfl⟩) rfl hl.1 rfl (Nat.le_of_ble_eq_true rfl) dX4_prepare_124 ⟨Nat.le_of_ble_eq_true rfl, Nat.le_of_ble_eq_true rfl⟩ (fun ad' H locs hp hw => ?_)
      subst hp
      refine W.widen (k := 0) (n := 0) (by decide) (by decide) ?_
      refine lv_iconst (v := (0 : Int32)) hx hb dX4_prepare_127 (by decide) ?_
      refine lv_istore (lv' := [(4, .int (0 : Int32)), (3, .int w0), (0, .ref (ad 10)), (1, .int v1), (2, .int v2)]) hx hb dX4_prepare_128 hl (by decide) rfl (fun ls hl => ?_)
      exact TX4_prepare_130 C hr35 v1 v2 w0 (0 : Int32) sg17 h _ _ _ hw (lv_sub hl [2, 3, 4, 1, 0] rfl)
    · replace h := ite_f h c15
      refine lv_aload_n hx hb dX4_prepare_103 rfl (lv_at hl 1 rfl) ?_
      refine r_getR (ci := 4) (C := RX4) (U := TX4) (N := 8) hx hb hts kX4_prepare_iX4 hown hK hw 10 (by decide) rfl rfl 6 (by decide) 29 rfl (hts _ kX4_prepare_f28) (fun _ h9 => h9) dX4_prepare_104 ?_
      refine lv_goto (tgt := 114) hx hb dX4_prepare_107 (by decide) ?_
      refine lv_iload_n hx hb dX4_prepare_114 rfl (lv_at hl 0 rfl) ?_
      refine lv_aload_n hx hb dX4_prepare_115 rfl (lv_at hl 1 rfl) ?_
      refine r_getR (ci := 4) (C := RX4) (U := TX4) (N := 8) hx hb hts kX4_prepare_iX4 hown hK hw 10 (by decide) rfl rfl 0 (by decide) 3 rfl (hts _ kX4_prepare_f34) (fun _ h9 => h9) dX4_prepare_116 ?_
      refine r_getR (ci := 8) (C := RX8) (U := TX8) (N := 10) hx hb hts kX4_prepare_iX8 hown hK hw 3 (by decide) rfl rfl 8 (by decide) 22 rfl (hts _ kX4_prepare_f54) (fun _ h9 => h9) dX4_prepare_119 ?_
      refine lv_iload_n hx hb dX4_prepare_122 rfl (lv_at hl 2 rfl) ?_
      have hi19 := (gin_some h).1
      replace h := (gin_some h).2
      refine r_iald hx hb hK hw 22 0 12 (by decide) rfl rfl rfl hi19 dX4_prepare_123 ?_
      obtain ⟨sg20, hq21, h2⟩ := bnd1_some h
      replace h := h2
      clear h2
      refine r_cSv (As := [.ref (ad 29), .int w0, .int (sg13 22 v1.toNatClampNeg)]) (rest := []) C hw (mX4_spreadUnion_c29 l D T ad lg H.size w0 (sg13 22 v1.toNatClampNeg) sg13 hq21) (va_cwS 3 hts gX4_prepare_X4_spreadUnion rfl rfl rfl (by decide +kernel) ⟨Nat.le_of_ble_eq_true rfl, Nat.le_of_ble_eq_true rfl⟩) rfl hl.1 rfl (Nat.le_of_ble_eq_true rfl) dX4_prepare_124 ⟨Nat.le_of_ble_eq_true rfl, Nat.le_of_ble_eq_true rfl⟩ (fun ad' H locs hp hw => ?_)
      subst hp
      refine W.widen (k := 0) (n := 0) (by decide) (by decide) ?_
      refine lv_iconst (v := (0 : Int32)) hx hb dX4_prepare_127 (by decide) ?_
      refine lv_istore (lv' := [(4, .int (0 : Int32)), (3, .int w0), (0, .ref (ad 10)), (1, .int v1), (2, .int v2)]) hx hb dX4_prepare_128 hl (by decide) rfl (fun ls hl => ?_)
      exact TX4_prepare_130 C hr35 v1 v2 w0 (0 : Int32) sg20 h _ _ _ hw (lv_sub hl [2, 3, 4, 1, 0] rfl)
def fX4_prepare_57 (r35 : (Int32 × Sg) → Option (Sg)) (v1 : Int32) (w0 : Int32) (sg : Sg) : Option (Sg) :=
  (if w0 = 0 then fX4_prepare_70 r35 v1 w0 (v1 - (6 : Int32)) sg else fX4_prepare_70 r35 v1 w0 v1 sg)
set_option maxHeartbeats 4000000 in
set_option maxRecDepth 100000 in
theorem tX4_prepare_57 (C : Cx p s m args meth c cX4_prepare 5 RX4 wsX4_prepare none D vwCl (tysC T) A true nwL) {so : Sg} {r35 : (Int32 × Sg) → Option (Sg)} (hr35 : ∀ (v1 : Int32) (sg : Sg), r35 (v1, sg) = some so → ∀ (H : Heap) (locs : List Loc) (ls : Array Slot), WS ZC D vwCl T ad sg lg A s.heap H locs → lv_has ls 5 [(0, .ref (ad 10)), (1, .int v1)] → W p l e rmX4_prepare s m args below meth c H locs 0 0 (MQ below (QV ZC D vwCl T (tysC T) A (fun z => ad = z) so lg) args s 0 0 A) (F0 m 35 ls [])) : ∀ (v1 : Int32) (w0 : Int32) (sg : Sg), ∀ (H : Heap) (locs : List Loc) (ls : Array Slot), WS ZC D vwCl T ad sg lg A s.heap H locs → lv_has ls 5 [(0, .ref (ad 10)), (1, .int v1)] → fX4_prepare_57 r35 v1 w0 sg = some so → W p l e rmX4_prepare s m args below meth c H locs 0 0 (MQ below (QV ZC D vwCl T (tysC T) A (fun z => ad = z) so lg) args s 0 0 A) (F0 m 57 ls [.int w0]) := by
  obtain ⟨⟨hx, hb, hml, hown, hts⟩, hr, hlk, hK, hA, hsp⟩ := id C
  intro v1 w0 sg H locs ls hw hl h
  unfold fX4_prepare_57 at h
  refine lv_istore_n (lv' := [(2, .int w0), (0, .ref (ad 10)), (1, .int v1)]) hx hb dX4_prepare_57 rfl hl (by decide) rfl (fun ls hl => ?_)
  refine lv_iload_n hx hb dX4_prepare_58 rfl (lv_at hl 0 rfl) ?_
  refine lv_if_eq (tgt := 66) hx hb dX4_prepare_59 (by decide) (fun c1 => ?_) (fun c1 => ?_)
  · replace h := ite_t h c1
    refine lv_iload_n hx hb dX4_prepare_66 rfl (lv_at hl 2 rfl) ?_
    refine lv_bipush (v := (6 : Int32)) hx hb dX4_prepare_67 (by decide) ?_
    refine lv_isub hx hb dX4_prepare_69 ?_
    exact tX4_prepare_70 C hr35 v1 w0 (v1 - (6 : Int32)) sg _ _ _ hw (lv_sub hl [1, 2, 0] rfl) h
  · replace h := ite_f h c1
    refine lv_iload_n hx hb dX4_prepare_62 rfl (lv_at hl 2 rfl) ?_
    refine lv_goto (tgt := 70) hx hb dX4_prepare_63 (by decide) ?_
    exact tX4_prepare_70 C hr35 v1 w0 v1 sg _ _ _ hw (lv_sub hl [1, 2, 0] rfl) h
def fX4_prepare_35 (r35 : (Int32 × Sg) → Option (Sg)) (v1 : Int32) (sg : Sg) : Option (Sg) :=
  (if (sg 3 2) ≤ v1 then some sg else (if (6 : Int32) ≤ v1 then fX4_prepare_57 r35 v1 (0 : Int32) sg else fX4_prepare_57 r35 v1 (1 : Int32) sg))
set_option maxHeartbeats 4000000 in
set_option maxRecDepth 100000 in
theorem tX4_prepare_35 (C : Cx p s m args meth c cX4_prepare 5 RX4 wsX4_prepare none D vwCl (tysC T) A true nwL) {so : Sg} {r35 : (Int32 × Sg) → Option (Sg)} (hr35 : ∀ (v1 : Int32) (sg : Sg), r35 (v1, sg) = some so → ∀ (H : Heap) (locs : List Loc) (ls : Array Slot), WS ZC D vwCl T ad sg lg A s.heap H locs → lv_has ls 5 [(0, .ref (ad 10)), (1, .int v1)] → W p l e rmX4_prepare s m args below meth c H locs 0 0 (MQ below (QV ZC D vwCl T (tysC T) A (fun z => ad = z) so lg) args s 0 0 A) (F0 m 35 ls [])) : ∀ (v1 : Int32) (sg : Sg), ∀ (H : Heap) (locs : List Loc) (ls : Array Slot), WS ZC D vwCl T ad sg lg A s.heap H locs → lv_has ls 5 [(0, .ref (ad 10)), (1, .int v1)] → fX4_prepare_35 r35 v1 sg = some so → W p l e rmX4_prepare s m args below meth c H locs 0 0 (MQ below (QV ZC D vwCl T (tysC T) A (fun z => ad = z) so lg) args s 0 0 A) (F0 m 35 ls []) := by
  obtain ⟨⟨hx, hb, hml, hown, hts⟩, hr, hlk, hK, hA, hsp⟩ := id C
  intro v1 sg H locs ls hw hl h
  unfold fX4_prepare_35 at h
  refine lv_iload_n hx hb dX4_prepare_35 rfl (lv_at hl 1 rfl) ?_
  refine lv_aload_n hx hb dX4_prepare_36 rfl (lv_at hl 0 rfl) ?_
  refine r_getR (ci := 4) (C := RX4) (U := TX4) (N := 8) hx hb hts kX4_prepare_iX4 hown hK hw 10 (by decide) rfl rfl 0 (by decide) 3 rfl (hts _ kX4_prepare_f34) (fun _ h9 => h9) dX4_prepare_37 ?_
  refine r_getI (ci := 8) (C := RX8) (U := TX8) (N := 10) hx hb hts kX4_prepare_iX8 hown hK hw 3 (by decide) rfl rfl 2 (by decide) rfl (hts _ kX4_prepare_f44) (fun _ h9 => h9) dX4_prepare_40 ?_
  refine lv_icmp_ge (tgt := 188) hx hb dX4_prepare_43 (by decide) (fun c1 => ?_) (fun c1 => ?_)
  · replace h := ite_t h c1
    cases h
    exact r_vret C hw rfl (by decide) (by decide) dX4_prepare_188
  · replace h := ite_f h c1
    refine lv_iload_n hx hb dX4_prepare_46 rfl (lv_at hl 1 rfl) ?_
    refine lv_bipush (v := (6 : Int32)) hx hb dX4_prepare_47 (by decide) ?_
    refine lv_icmp_ge (tgt := 56) hx hb dX4_prepare_49 (by decide) (fun c2 => ?_) (fun c2 => ?_)
    · replace h := ite_t h c2
      refine lv_iconst (v := (0 : Int32)) hx hb dX4_prepare_56 (by decide) ?_
      exact tX4_prepare_57 C hr35 v1 (0 : Int32) sg _ _ _ hw (lv_sub hl [0, 1] rfl) h
    · replace h := ite_f h c2
      refine lv_iconst (v := (1 : Int32)) hx hb dX4_prepare_52 (by decide) ?_
      refine lv_goto (tgt := 57) hx hb dX4_prepare_53 (by decide) ?_
      exact tX4_prepare_57 C hr35 v1 (1 : Int32) sg _ _ _ hw (lv_sub hl [0, 1] rfl) h
def LX4_prepare_35  : (Int32 × Sg) → Option (Sg) := loop (fun rec z => fX4_prepare_35 rec z.1 z.2)
theorem TX4_prepare_35 (C : Cx p s m args meth c cX4_prepare 5 RX4 wsX4_prepare none D vwCl (tysC T) A true nwL) {so : Sg}   : ∀ (v1 : Int32) (sg : Sg), LX4_prepare_35 (v1, sg) = some so → ∀ (H : Heap) (locs : List Loc) (ls : Array Slot), WS ZC D vwCl T ad sg lg A s.heap H locs → lv_has ls 5 [(0, .ref (ad 10)), (1, .int v1)] → W p l e rmX4_prepare s m args below meth c H locs 0 0 (MQ below (QV ZC D vwCl T (tysC T) A (fun z => ad = z) so lg) args s 0 0 A) (F0 m 35 ls []) := by
  have key : ∀ z : (Int32 × Sg), LX4_prepare_35  z = some so → ∀ (H : Heap) (locs : List Loc) (ls : Array Slot), WS ZC D vwCl T ad z.2 lg A s.heap H locs → lv_has ls 5 [(0, .ref (ad 10)), (1, .int z.1)] → W p l e rmX4_prepare s m args below meth c H locs 0 0 (MQ below (QV ZC D vwCl T (tysC T) A (fun z => ad = z) so lg) args s 0 0 A) (F0 m 35 ls []) := by
    intro z h
    unfold LX4_prepare_35 at h
    exact loop_ind (fun rec z => fX4_prepare_35 rec z.1 z.2) (y := so) (P := fun z => ∀ (H : Heap) (locs : List Loc) (ls : Array Slot), WS ZC D vwCl T ad z.2 lg A s.heap H locs → lv_has ls 5 [(0, .ref (ad 10)), (1, .int z.1)] → W p l e rmX4_prepare s m args below meth c H locs 0 0 (MQ below (QV ZC D vwCl T (tysC T) A (fun z => ad = z) so lg) args s 0 0 A) (F0 m 35 ls [])) (fun rec hrec z h H locs ls hw hl => tX4_prepare_35 C  (fun v1 sg => hrec (v1, sg)) z.1 z.2 H locs ls hw hl h) z h
  exact fun v1 sg => key (v1, sg)
def fX4_prepare  (sg : Sg) : Option (Sg) :=
  bnd1 (fX8_gather sg) (fun sg1 => (if (sg1 10 1) = (sg1 3 1) then some sg1 else lt (sg1 3 1) (fun x4 => lt (up2 sg1 10 1 x4) (fun sg5 => LX4_prepare_35 ((0 : Int32), sg5)))))
set_option maxHeartbeats 4000000 in
set_option maxRecDepth 100000 in
theorem tX4_prepare_0 (C : Cx p s m args meth c cX4_prepare 5 RX4 wsX4_prepare none D vwCl (tysC T) A true nwL) {so : Sg}   : ∀ (sg : Sg), ∀ (H : Heap) (locs : List Loc) (ls : Array Slot), WS ZC D vwCl T ad sg lg A s.heap H locs → lv_has ls 5 [(0, .ref (ad 10))] → fX4_prepare sg = some so → W p l e rmX4_prepare s m args below meth c H locs 0 0 (MQ below (QV ZC D vwCl T (tysC T) A (fun z => ad = z) so lg) args s 0 0 A) (F0 m 0 ls []) := by
  obtain ⟨⟨hx, hb, hml, hown, hts⟩, hr, hlk, hK, hA, hsp⟩ := id C
  intro sg H locs ls hw hl h
  unfold fX4_prepare at h
  refine lv_aload_n hx hb dX4_prepare_0 rfl (lv_at hl 0 rfl) ?_
  refine r_getR (ci := 4) (C := RX4) (U := TX4) (N := 8) hx hb hts kX4_prepare_iX4 hown hK hw 10 (by decide) rfl rfl 0 (by decide) 3 rfl (hts _ kX4_prepare_f34) (fun _ h9 => h9) dX4_prepare_1 ?_
  obtain ⟨sg1, hq2, h2⟩ := bnd1_some h
  replace h := h2
  clear h2
  refine r_cVv (As := []) (rest := []) C hw 3 (by decide) (ci := 8) rfl rfl (mX8_gather l D T ad lg H.size sg hq2) (cwV 0 hts gX4_prepare_X8_gather rfl rfl rfl (by decide +kernel) ⟨Nat.le_of_ble_eq_true rfl, Nat.le_of_ble_eq_true rfl⟩) rfl hl.1 rfl (Nat.le_of_ble_eq_true rfl) dX4_prepare_4 ⟨Nat.le_of_ble_eq_true rfl, Nat.le_of_ble_eq_true rfl⟩ (fun ad' H locs hp hw => ?_)
  subst hp
  refine W.widen (k := 0) (n := 0) (by decide) (by decide) ?_
  refine lv_aload_n hx hb dX4_prepare_7 rfl (lv_at hl 0 rfl) ?_
  refine r_getI (ci := 4) (C := RX4) (U := TX4) (N := 8) hx hb hts kX4_prepare_iX4 hown hK hw 10 (by decide) rfl rfl 1 (by decide) rfl (hts _ kX4_prepare_f9) (fun _ h9 => h9) dX4_prepare_8 ?_
  refine lv_aload_n hx hb dX4_prepare_11 rfl (lv_at hl 0 rfl) ?_
  refine r_getR (ci := 4) (C := RX4) (U := TX4) (N := 8) hx hb hts kX4_prepare_iX4 hown hK hw 10 (by decide) rfl rfl 0 (by decide) 3 rfl (hts _ kX4_prepare_f34) (fun _ h9 => h9) dX4_prepare_12 ?_
  refine r_getI (ci := 8) (C := RX8) (U := TX8) (N := 10) hx hb hts kX4_prepare_iX8 hown hK hw 3 (by decide) rfl rfl 1 (by decide) rfl (hts _ kX4_prepare_f43) (fun _ h9 => h9) dX4_prepare_15 ?_
  refine lv_icmp_ne (tgt := 22) hx hb dX4_prepare_18 (by decide) (fun c3 => ?_) (fun c3 => ?_)
  · replace h := ite_f h c3
    refine lv_aload_n hx hb dX4_prepare_22 rfl (lv_at hl 0 rfl) ?_
    refine lv_aload_n hx hb dX4_prepare_23 rfl (lv_at hl 0 rfl) ?_
    refine r_getR (ci := 4) (C := RX4) (U := TX4) (N := 8) hx hb hts kX4_prepare_iX4 hown hK hw 10 (by decide) rfl rfl 0 (by decide) 3 rfl (hts _ kX4_prepare_f34) (fun _ h9 => h9) dX4_prepare_24 ?_
    refine r_getI (ci := 8) (C := RX8) (U := TX8) (N := 10) hx hb hts kX4_prepare_iX8 hown hK hw 3 (by decide) rfl rfl 1 (by decide) rfl (hts _ kX4_prepare_f43) (fun _ h9 => h9) dX4_prepare_27 ?_
    refine lv_topi (fun x4 ex4 => ?_)
    replace h := lt_get h x4 ex4
    refine r_putI ZC_ok (ci := 4) (C := RX4) (U := TX4) (N := 8) (ty := .int) hx hb hts kX4_prepare_iX4 tyX4 tyX4_ok nmX4 hown hK hw 10 (by decide) rfl rfl 1 (by decide) rfl (hts _ kX4_prepare_f9) (fun _ h9 => h9) rfl (by decide +kernel) rfl rfl dX4_prepare_30 (fun H locs sg5 esg5 hw => ?_)
    replace h := lt_get h sg5 esg5
    refine lv_iconst (v := (0 : Int32)) hx hb dX4_prepare_33 (by decide) ?_
    refine lv_istore_n (lv' := [(1, .int (0 : Int32)), (0, .ref (ad 10))]) hx hb dX4_prepare_34 rfl hl (by decide) rfl (fun ls hl => ?_)
    exact TX4_prepare_35 C (0 : Int32) sg5 h _ _ _ hw (lv_sub hl [1, 0] rfl)
  · replace h := ite_t h c3
    cases h
    exact r_vret C hw rfl (by decide) (by decide) dX4_prepare_21
theorem mX4_prepare (l : Launch) (D : va_G) (T : Nat → ClassId) (ad : Nat → Nat) (lg : Lg) (sz : Nat)   (sg : Sg) {so : Sg} (h : fX4_prepare sg = some so) : Met l yX4_prepare wsX4_prepare rmX4_prepare (PreZ ZC D vwCl T (tysC T) ad sg lg true nwL [.ref (ad 10)] sz) (QV ZC D vwCl T (tysC T) (va_A (zwd ZC T ad sg lg) sz) (fun z => ad = z) so lg) 0 0 (va_A (zwd ZC T ad sg lg) sz) :=
  metZ [.ref (ad 10)] sz (by decide) rfl (Nat.le_of_ble_eq_true rfl) (fun p e s m below meth c ls C hw hl => tX4_prepare_0 C sg _ _ _ hw hl h)
-- PeckYard$Muster.all()I
def rmX8_all : Room := { frames := 0, cells := 0, slots := 0, locals := 0 }
theorem kX8_all_f44 : Cond.fieldLink RX8 44 "PeckYard$Muster" "size" "I" ∈ wsX8_all := by decide +kernel
theorem kX8_all_iX8 : ∀ w ∈ u_ws RX8 TX8 10, w ∈ wsX8_all := by decide +kernel
def fX8_all  (sg : Sg) : Option (Int32 × Sg) :=
  some ((((1 : Int32) <<< ((sg 3 2) &&& 31)) - (1 : Int32)), sg)
set_option maxHeartbeats 4000000 in
set_option maxRecDepth 100000 in
theorem tX8_all_0 (C : Cx p s m args meth c cX8_all 1 RX8 wsX8_all (some .int) D vwCl (tysC T) A true nwL) {ro : Int32} {so : Sg}   : ∀ (sg : Sg), ∀ (H : Heap) (locs : List Loc) (ls : Array Slot), WS ZC D vwCl T ad sg lg A s.heap H locs → lv_has ls 1 [(0, .ref (ad 3))] → fX8_all sg = some (ro, so) → W p l e rmX8_all s m args below meth c H locs 0 0 (MQ below (QI ZC D vwCl T (tysC T) A (fun z => ad = z) ro so lg) args s 0 0 A) (F0 m 0 ls []) := by
  obtain ⟨⟨hx, hb, hml, hown, hts⟩, hr, hlk, hK, hA, hsp⟩ := id C
  intro sg H locs ls hw hl h
  unfold fX8_all at h
  refine lv_iconst (v := (1 : Int32)) hx hb dX8_all_0 (by decide) ?_
  refine lv_aload_n hx hb dX8_all_1 rfl (lv_at hl 0 rfl) ?_
  refine r_getI (ci := 8) (C := RX8) (U := TX8) (N := 10) hx hb hts kX8_all_iX8 hown hK hw 3 (by decide) rfl rfl 2 (by decide) rfl (hts _ kX8_all_f44) (fun _ h9 => h9) dX8_all_2 ?_
  refine lv_ishl hx hb dX8_all_5 ?_
  refine lv_iconst (v := (1 : Int32)) hx hb dX8_all_6 (by decide) ?_
  refine lv_isub hx hb dX8_all_7 ?_
  cases h
  exact r_iret C hw rfl (by decide) (by decide) dX8_all_8
theorem mX8_all (l : Launch) (D : va_G) (T : Nat → ClassId) (ad : Nat → Nat) (lg : Lg) (sz : Nat)   (sg : Sg) {ro : Int32} {so : Sg} (h : fX8_all sg = some (ro, so)) : Met l yX8_all wsX8_all rmX8_all (PreZ ZC D vwCl T (tysC T) ad sg lg true nwL [.ref (ad 3)] sz) (QI ZC D vwCl T (tysC T) (va_A (zwd ZC T ad sg lg) sz) (fun z => ad = z) ro so lg) 0 0 (va_A (zwd ZC T ad sg lg) sz) :=
  metZ [.ref (ad 3)] sz (by decide) rfl (Nat.le_of_ble_eq_true rfl) (fun p e s m below meth c ls C hw hl => tX8_all_0 C sg _ _ _ hw hl h)
-- PeckYard$Halves.pairsOf(I)I
def rmX4_pairsOf : Room := { frames := 0, cells := 0, slots := 0, locals := 0 }
theorem kX4_pairsOf_f28 : Cond.fieldLink RX4 28 "PeckYard$Halves" "lowPairs" "[I" ∈ wsX4_pairsOf := by decide +kernel
theorem kX4_pairsOf_iX4 : ∀ w ∈ u_ws RX4 TX4 8, w ∈ wsX4_pairsOf := by decide +kernel
theorem kX4_pairsOf_f31 : Cond.fieldLink RX4 31 "PeckYard$Halves" "highPairs" "[I" ∈ wsX4_pairsOf := by decide +kernel
def fX4_pairsOf  (v1 : Int32) (sg : Sg) : Option (Int32 × Sg) :=
  lt (v1 &&& (63 : Int32)) (fun x1 => gin x1 64 (lt ((v1 >>> ((6 : Int32) &&& 31)) &&& (63 : Int32)) (fun x3 => gin x3 64 (some (((sg 29 x1.toNatClampNeg) ||| (sg 30 x3.toNatClampNeg)), sg)))))
set_option maxHeartbeats 4000000 in
set_option maxRecDepth 100000 in
theorem tX4_pairsOf_0 (C : Cx p s m args meth c cX4_pairsOf 2 RX4 wsX4_pairsOf (some .int) D vwCl (tysC T) A true nwL) {ro : Int32} {so : Sg}   : ∀ (v1 : Int32) (sg : Sg), ∀ (H : Heap) (locs : List Loc) (ls : Array Slot), WS ZC D vwCl T ad sg lg A s.heap H locs → lv_has ls 2 [(0, .ref (ad 10)), (1, .int v1)] → fX4_pairsOf v1 sg = some (ro, so) → W p l e rmX4_pairsOf s m args below meth c H locs 0 0 (MQ below (QI ZC D vwCl T (tysC T) A (fun z => ad = z) ro so lg) args s 0 0 A) (F0 m 0 ls []) := by
  obtain ⟨⟨hx, hb, hml, hown, hts⟩, hr, hlk, hK, hA, hsp⟩ := id C
  intro v1 sg H locs ls hw hl h
  unfold fX4_pairsOf at h
  refine lv_aload_n hx hb dX4_pairsOf_0 rfl (lv_at hl 0 rfl) ?_
  refine r_getR (ci := 4) (C := RX4) (U := TX4) (N := 8) hx hb hts kX4_pairsOf_iX4 hown hK hw 10 (by decide) rfl rfl 6 (by decide) 29 rfl (hts _ kX4_pairsOf_f28) (fun _ h9 => h9) dX4_pairsOf_1 ?_
  refine lv_iload_n hx hb dX4_pairsOf_4 rfl (lv_at hl 1 rfl) ?_
  refine lv_bipush (v := (63 : Int32)) hx hb dX4_pairsOf_5 (by decide) ?_
  refine lv_iand hx hb dX4_pairsOf_7 ?_
  refine lv_topi (fun x1 ex1 => ?_)
  replace h := lt_get h x1 ex1
  have hi2 := (gin_some h).1
  replace h := (gin_some h).2
  refine r_iald hx hb hK hw 29 0 64 (by decide) rfl rfl rfl hi2 dX4_pairsOf_8 ?_
  refine lv_aload_n hx hb dX4_pairsOf_9 rfl (lv_at hl 0 rfl) ?_
  refine r_getR (ci := 4) (C := RX4) (U := TX4) (N := 8) hx hb hts kX4_pairsOf_iX4 hown hK hw 10 (by decide) rfl rfl 7 (by decide) 30 rfl (hts _ kX4_pairsOf_f31) (fun _ h9 => h9) dX4_pairsOf_10 ?_
  refine lv_iload_n hx hb dX4_pairsOf_13 rfl (lv_at hl 1 rfl) ?_
  refine lv_bipush (v := (6 : Int32)) hx hb dX4_pairsOf_14 (by decide) ?_
  refine lv_ishr hx hb dX4_pairsOf_16 ?_
  refine lv_bipush (v := (63 : Int32)) hx hb dX4_pairsOf_17 (by decide) ?_
  refine lv_iand hx hb dX4_pairsOf_19 ?_
  refine lv_topi (fun x3 ex3 => ?_)
  replace h := lt_get h x3 ex3
  have hi4 := (gin_some h).1
  replace h := (gin_some h).2
  refine r_iald hx hb hK hw 30 0 64 (by decide) rfl rfl rfl hi4 dX4_pairsOf_20 ?_
  refine lv_ior hx hb dX4_pairsOf_21 ?_
  cases h
  exact r_iret C hw rfl (by decide) (by decide) dX4_pairsOf_22
theorem mX4_pairsOf (l : Launch) (D : va_G) (T : Nat → ClassId) (ad : Nat → Nat) (lg : Lg) (sz : Nat)   (v1 : Int32) (sg : Sg) {ro : Int32} {so : Sg} (h : fX4_pairsOf v1 sg = some (ro, so)) : Met l yX4_pairsOf wsX4_pairsOf rmX4_pairsOf (PreZ ZC D vwCl T (tysC T) ad sg lg true nwL [.ref (ad 10), .int v1] sz) (QI ZC D vwCl T (tysC T) (va_A (zwd ZC T ad sg lg) sz) (fun z => ad = z) ro so lg) 0 0 (va_A (zwd ZC T ad sg lg) sz) :=
  metZ [.ref (ad 10), .int v1] sz (by decide) rfl (Nat.le_of_ble_eq_true rfl) (fun p e s m below meth c ls C hw hl => tX4_pairsOf_0 C v1 sg _ _ _ hw hl h)
-- PeckYard$Halves.mustBeBelow(I)I
def rmX4_mustBeBelow : Room := { frames := 0, cells := 0, slots := 0, locals := 0 }
theorem kX4_mustBeBelow_f22 : Cond.fieldLink RX4 22 "PeckYard$Halves" "lowBelow" "[I" ∈ wsX4_mustBeBelow := by decide +kernel
theorem kX4_mustBeBelow_iX4 : ∀ w ∈ u_ws RX4 TX4 8, w ∈ wsX4_mustBeBelow := by decide +kernel
theorem kX4_mustBeBelow_f25 : Cond.fieldLink RX4 25 "PeckYard$Halves" "highBelow" "[I" ∈ wsX4_mustBeBelow := by decide +kernel
def fX4_mustBeBelow  (v1 : Int32) (sg : Sg) : Option (Int32 × Sg) :=
  lt (v1 &&& (63 : Int32)) (fun x1 => gin x1 64 (lt ((v1 >>> ((6 : Int32) &&& 31)) &&& (63 : Int32)) (fun x3 => gin x3 64 (some (((sg 27 x1.toNatClampNeg) ||| (sg 28 x3.toNatClampNeg)), sg)))))
set_option maxHeartbeats 4000000 in
set_option maxRecDepth 100000 in
theorem tX4_mustBeBelow_0 (C : Cx p s m args meth c cX4_mustBeBelow 2 RX4 wsX4_mustBeBelow (some .int) D vwCl (tysC T) A true nwL) {ro : Int32} {so : Sg}   : ∀ (v1 : Int32) (sg : Sg), ∀ (H : Heap) (locs : List Loc) (ls : Array Slot), WS ZC D vwCl T ad sg lg A s.heap H locs → lv_has ls 2 [(0, .ref (ad 10)), (1, .int v1)] → fX4_mustBeBelow v1 sg = some (ro, so) → W p l e rmX4_mustBeBelow s m args below meth c H locs 0 0 (MQ below (QI ZC D vwCl T (tysC T) A (fun z => ad = z) ro so lg) args s 0 0 A) (F0 m 0 ls []) := by
  obtain ⟨⟨hx, hb, hml, hown, hts⟩, hr, hlk, hK, hA, hsp⟩ := id C
  intro v1 sg H locs ls hw hl h
  unfold fX4_mustBeBelow at h
  refine lv_aload_n hx hb dX4_mustBeBelow_0 rfl (lv_at hl 0 rfl) ?_
  refine r_getR (ci := 4) (C := RX4) (U := TX4) (N := 8) hx hb hts kX4_mustBeBelow_iX4 hown hK hw 10 (by decide) rfl rfl 4 (by decide) 27 rfl (hts _ kX4_mustBeBelow_f22) (fun _ h9 => h9) dX4_mustBeBelow_1 ?_
  refine lv_iload_n hx hb dX4_mustBeBelow_4 rfl (lv_at hl 1 rfl) ?_
  refine lv_bipush (v := (63 : Int32)) hx hb dX4_mustBeBelow_5 (by decide) ?_
  refine lv_iand hx hb dX4_mustBeBelow_7 ?_
  refine lv_topi (fun x1 ex1 => ?_)
  replace h := lt_get h x1 ex1
  have hi2 := (gin_some h).1
  replace h := (gin_some h).2
  refine r_iald hx hb hK hw 27 0 64 (by decide) rfl rfl rfl hi2 dX4_mustBeBelow_8 ?_
  refine lv_aload_n hx hb dX4_mustBeBelow_9 rfl (lv_at hl 0 rfl) ?_
  refine r_getR (ci := 4) (C := RX4) (U := TX4) (N := 8) hx hb hts kX4_mustBeBelow_iX4 hown hK hw 10 (by decide) rfl rfl 5 (by decide) 28 rfl (hts _ kX4_mustBeBelow_f25) (fun _ h9 => h9) dX4_mustBeBelow_10 ?_
  refine lv_iload_n hx hb dX4_mustBeBelow_13 rfl (lv_at hl 1 rfl) ?_
  refine lv_bipush (v := (6 : Int32)) hx hb dX4_mustBeBelow_14 (by decide) ?_
  refine lv_ishr hx hb dX4_mustBeBelow_16 ?_
  refine lv_bipush (v := (63 : Int32)) hx hb dX4_mustBeBelow_17 (by decide) ?_
  refine lv_iand hx hb dX4_mustBeBelow_19 ?_
  refine lv_topi (fun x3 ex3 => ?_)
  replace h := lt_get h x3 ex3
  have hi4 := (gin_some h).1
  replace h := (gin_some h).2
  refine r_iald hx hb hK hw 28 0 64 (by decide) rfl rfl rfl hi4 dX4_mustBeBelow_20 ?_
  refine lv_ior hx hb dX4_mustBeBelow_21 ?_
  cases h
  exact r_iret C hw rfl (by decide) (by decide) dX4_mustBeBelow_22
theorem mX4_mustBeBelow (l : Launch) (D : va_G) (T : Nat → ClassId) (ad : Nat → Nat) (lg : Lg) (sz : Nat)   (v1 : Int32) (sg : Sg) {ro : Int32} {so : Sg} (h : fX4_mustBeBelow v1 sg = some (ro, so)) : Met l yX4_mustBeBelow wsX4_mustBeBelow rmX4_mustBeBelow (PreZ ZC D vwCl T (tysC T) ad sg lg true nwL [.ref (ad 10), .int v1] sz) (QI ZC D vwCl T (tysC T) (va_A (zwd ZC T ad sg lg) sz) (fun z => ad = z) ro so lg) 0 0 (va_A (zwd ZC T ad sg lg) sz) :=
  metZ [.ref (ad 10), .int v1] sz (by decide) rfl (Nat.le_of_ble_eq_true rfl) (fun p e s m below meth c ls C hw hl => tX4_mustBeBelow_0 C v1 sg _ _ _ hw hl h)
-- PeckYard$Orders.choices(I)I
def rmX9_choices : Room := { frames := 1, cells := 0, slots := 0, locals := 21 }
theorem kX9_choices_f38 : Cond.fieldLink RX9 38 "PeckYard$Orders" "muster" "LPeckYard$Muster;" ∈ wsX9_choices := by decide +kernel
theorem kX9_choices_iX9 : ∀ w ∈ u_ws RX9 TX9 11, w ∈ wsX9_choices := by decide +kernel
theorem kX9_choices_f47 : Cond.fieldLink RX9 47 "PeckYard$Orders" "halves" "LPeckYard$Halves;" ∈ wsX9_choices := by decide +kernel
def fX9_choices_42  (v2 : Int32) (w0 : Int32) (sg : Sg) : Option (Int32 × Sg) :=
  bnd2 (fX4_mustBeBelow v2 sg) (fun y1 sg2 => some ((w0 &&& (y1 ^^^ (-1 : Int32))), sg2))
set_option maxHeartbeats 4000000 in
set_option maxRecDepth 100000 in
theorem tX9_choices_42 (C : Cx p s m args meth c cX9_choices 4 RX9 wsX9_choices (some .int) D vwCl (tysC T) A true nwL) {ro : Int32} {so : Sg}   : ∀ (v2 : Int32) (w0 : Int32) (sg : Sg), ∀ (H : Heap) (locs : List Loc) (ls : Array Slot), WS ZC D vwCl T ad sg lg A s.heap H locs → lv_has ls 4 [(0, .ref (ad 4)), (2, .int v2)] → fX9_choices_42 v2 w0 sg = some (ro, so) → W p l e rmX9_choices s m args below meth c H locs 0 0 (MQ below (QI ZC D vwCl T (tysC T) A (fun z => ad = z) ro so lg) args s 0 0 A) (F0 m 42 ls [.int w0]) := by
  obtain ⟨⟨hx, hb, hml, hown, hts⟩, hr, hlk, hK, hA, hsp⟩ := id C
  intro v2 w0 sg H locs ls hw hl h
  unfold fX9_choices_42 at h
  refine lv_aload_n hx hb dX9_choices_42 rfl (lv_at hl 0 rfl) ?_
  refine r_getR (ci := 9) (C := RX9) (U := TX9) (N := 11) hx hb hts kX9_choices_iX9 hown hK hw 4 (by decide) rfl rfl 1 (by decide) 10 rfl (hts _ kX9_choices_f47) (fun _ h9 => h9) dX9_choices_43 ?_
  refine lv_iload_n hx hb dX9_choices_46 rfl (lv_at hl 1 rfl) ?_
  obtain ⟨y1, sg2, hq3, h2⟩ := bnd2_some h
  replace h := h2
  clear h2
  refine r_cVi (As := [.int v2]) (rest := [.int w0]) C hw 10 (by decide) (ci := 4) rfl rfl (mX4_mustBeBelow l D T ad lg H.size v2 sg hq3) (cwV 1 hts gX9_choices_X4_mustBeBelow rfl rfl rfl (by decide +kernel) ⟨Nat.le_of_ble_eq_true rfl, Nat.le_of_ble_eq_true rfl⟩) rfl hl.1 rfl (Nat.le_of_ble_eq_true rfl) dX9_choices_47 ⟨Nat.le_of_ble_eq_true rfl, Nat.le_of_ble_eq_true rfl⟩ (fun ad' H locs hp hw => ?_)
  subst hp
  refine W.widen (k := 0) (n := 0) (by decide) (by decide) ?_
  refine lv_iconst (v := (-1 : Int32)) hx hb dX9_choices_50 (by decide) ?_
  refine lv_ixor hx hb dX9_choices_51 ?_
  refine lv_iand hx hb dX9_choices_52 ?_
  cases h
  exact r_iret C hw rfl (by decide) (by decide) dX9_choices_53
def fX9_choices  (v1 : Int32) (sg : Sg) : Option (Int32 × Sg) :=
  bnd2 (fX8_all sg) (fun y1 sg2 => lt (y1 &&& (v1 ^^^ (-1 : Int32))) (fun x4 => bnd2 (fX4_pairsOf v1 sg2) (fun y5 sg6 => lt (y5 &&& x4) (fun x8 => (if (x8 &&& (x8 - (1 : Int32))) = 0 then (if x8 = 0 then fX9_choices_42 x4 x4 sg6 else fX9_choices_42 x4 x8 sg6) else some ((0 : Int32), sg6))))))
set_option maxHeartbeats 4000000 in
set_option maxRecDepth 100000 in
theorem tX9_choices_0 (C : Cx p s m args meth c cX9_choices 4 RX9 wsX9_choices (some .int) D vwCl (tysC T) A true nwL) {ro : Int32} {so : Sg}   : ∀ (v1 : Int32) (sg : Sg), ∀ (H : Heap) (locs : List Loc) (ls : Array Slot), WS ZC D vwCl T ad sg lg A s.heap H locs → lv_has ls 4 [(0, .ref (ad 4)), (1, .int v1)] → fX9_choices v1 sg = some (ro, so) → W p l e rmX9_choices s m args below meth c H locs 0 0 (MQ below (QI ZC D vwCl T (tysC T) A (fun z => ad = z) ro so lg) args s 0 0 A) (F0 m 0 ls []) := by
  obtain ⟨⟨hx, hb, hml, hown, hts⟩, hr, hlk, hK, hA, hsp⟩ := id C
  intro v1 sg H locs ls hw hl h
  unfold fX9_choices at h
  refine lv_aload_n hx hb dX9_choices_0 rfl (lv_at hl 0 rfl) ?_
  refine r_getR (ci := 9) (C := RX9) (U := TX9) (N := 11) hx hb hts kX9_choices_iX9 hown hK hw 4 (by decide) rfl rfl 0 (by decide) 3 rfl (hts _ kX9_choices_f38) (fun _ h9 => h9) dX9_choices_1 ?_
  obtain ⟨y1, sg2, hq3, h2⟩ := bnd2_some h
  replace h := h2
  clear h2
  refine r_cVi (As := []) (rest := []) C hw 3 (by decide) (ci := 8) rfl rfl (mX8_all l D T ad lg H.size sg hq3) (cwV 0 hts gX9_choices_X8_all rfl rfl rfl (by decide +kernel) ⟨Nat.le_of_ble_eq_true rfl, Nat.le_of_ble_eq_true rfl⟩) rfl hl.1 rfl (Nat.le_of_ble_eq_true rfl) dX9_choices_4 ⟨Nat.le_of_ble_eq_true rfl, Nat.le_of_ble_eq_true rfl⟩ (fun ad' H locs hp hw => ?_)
  subst hp
  refine W.widen (k := 0) (n := 0) (by decide) (by decide) ?_
  refine lv_iload_n hx hb dX9_choices_7 rfl (lv_at hl 1 rfl) ?_
  refine lv_iconst (v := (-1 : Int32)) hx hb dX9_choices_8 (by decide) ?_
  refine lv_ixor hx hb dX9_choices_9 ?_
  refine lv_iand hx hb dX9_choices_10 ?_
  refine lv_topi (fun x4 ex4 => ?_)
  replace h := lt_get h x4 ex4
  refine lv_istore_n (lv' := [(2, .int x4), (0, .ref (ad 4)), (1, .int v1)]) hx hb dX9_choices_11 rfl hl (by decide) rfl (fun ls hl => ?_)
  refine lv_aload_n hx hb dX9_choices_12 rfl (lv_at hl 1 rfl) ?_
  refine r_getR (ci := 9) (C := RX9) (U := TX9) (N := 11) hx hb hts kX9_choices_iX9 hown hK hw 4 (by decide) rfl rfl 1 (by decide) 10 rfl (hts _ kX9_choices_f47) (fun _ h9 => h9) dX9_choices_13 ?_
  refine lv_iload_n hx hb dX9_choices_16 rfl (lv_at hl 2 rfl) ?_
  obtain ⟨y5, sg6, hq7, h2⟩ := bnd2_some h
  replace h := h2
  clear h2
  refine r_cVi (As := [.int v1]) (rest := []) C hw 10 (by decide) (ci := 4) rfl rfl (mX4_pairsOf l D T ad lg H.size v1 sg2 hq7) (cwV 1 hts gX9_choices_X4_pairsOf rfl rfl rfl (by decide +kernel) ⟨Nat.le_of_ble_eq_true rfl, Nat.le_of_ble_eq_true rfl⟩) rfl hl.1 rfl (Nat.le_of_ble_eq_true rfl) dX9_choices_17 ⟨Nat.le_of_ble_eq_true rfl, Nat.le_of_ble_eq_true rfl⟩ (fun ad' H locs hp hw => ?_)
  subst hp
  refine W.widen (k := 0) (n := 0) (by decide) (by decide) ?_
  refine lv_iload_n hx hb dX9_choices_20 rfl (lv_at hl 0 rfl) ?_
  refine lv_iand hx hb dX9_choices_21 ?_
  refine lv_topi (fun x8 ex8 => ?_)
  replace h := lt_get h x8 ex8
  refine lv_istore_n (lv' := [(3, .int x8), (2, .int x4), (0, .ref (ad 4)), (1, .int v1)]) hx hb dX9_choices_22 rfl hl (by decide) rfl (fun ls hl => ?_)
  refine lv_iload_n hx hb dX9_choices_23 rfl (lv_at hl 0 rfl) ?_
  refine lv_iload_n hx hb dX9_choices_24 rfl (lv_at hl 0 rfl) ?_
  refine lv_iconst (v := (1 : Int32)) hx hb dX9_choices_25 (by decide) ?_
  refine lv_isub hx hb dX9_choices_26 ?_
  refine lv_iand hx hb dX9_choices_27 ?_
  refine lv_if_eq (tgt := 33) hx hb dX9_choices_28 (by decide) (fun c9 => ?_) (fun c9 => ?_)
  · replace h := ite_t h c9
    refine lv_iload_n hx hb dX9_choices_33 rfl (lv_at hl 0 rfl) ?_
    refine lv_if_ne (tgt := 41) hx hb dX9_choices_34 (by decide) (fun c10 => ?_) (fun c10 => ?_)
    · replace h := ite_f h c10
      refine lv_iload_n hx hb dX9_choices_41 rfl (lv_at hl 0 rfl) ?_
      exact tX9_choices_42 C x4 x8 sg6 _ _ _ hw (lv_sub hl [2, 1] rfl) h
    · replace h := ite_t h c10
      refine lv_iload_n hx hb dX9_choices_37 rfl (lv_at hl 1 rfl) ?_
      refine lv_goto (tgt := 42) hx hb dX9_choices_38 (by decide) ?_
      exact tX9_choices_42 C x4 x4 sg6 _ _ _ hw (lv_sub hl [2, 1] rfl) h
  · replace h := ite_f h c9
    refine lv_iconst (v := (0 : Int32)) hx hb dX9_choices_31 (by decide) ?_
    cases h
    exact r_iret C hw rfl (by decide) (by decide) dX9_choices_32
theorem mX9_choices (l : Launch) (D : va_G) (T : Nat → ClassId) (ad : Nat → Nat) (lg : Lg) (sz : Nat)   (v1 : Int32) (sg : Sg) {ro : Int32} {so : Sg} (h : fX9_choices v1 sg = some (ro, so)) : Met l yX9_choices wsX9_choices rmX9_choices (PreZ ZC D vwCl T (tysC T) ad sg lg true nwL [.ref (ad 4), .int v1] sz) (QI ZC D vwCl T (tysC T) (va_A (zwd ZC T ad sg lg) sz) (fun z => ad = z) ro so lg) 0 0 (va_A (zwd ZC T ad sg lg) sz) :=
  metZ [.ref (ad 4), .int v1] sz (by decide) rfl (Nat.le_of_ble_eq_true rfl) (fun p e s m below meth c ls C hw hl => tX9_choices_0 C v1 sg _ _ _ hw hl h)
end ZC
