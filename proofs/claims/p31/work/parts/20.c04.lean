section ZC
variable {p : Program} {l : Launch} {e : Env} {s : State} {m : MethodId} {args : Array Value} {below : List Frame} {meth : Method} {c : Code} {D : va_G} {T : Nat → ClassId} {A : Nat → Prop} {ad a : Nat → Nat} {lg : Lg}
-- PeckYard$Muster.gather()V
def rmX8_gather : Room := { frames := 2, cells := 0, slots := 0, locals := 43 }
theorem kX8_gather_f9 : Cond.fieldLink RX8 9 "PeckYard$Muster" "stamp" "I" ∈ wsX8_gather := by decide +kernel
theorem kX8_gather_iX8 : ∀ w ∈ u_ws RX8 TX8 10, w ∈ wsX8_gather := by decide +kernel
theorem kX8_gather_f37 : Cond.fieldLink RX8 37 "PeckYard$Muster" "flock" "LPeckYard$Flock;" ∈ wsX8_gather := by decide +kernel
theorem kX8_gather_f41 : Cond.fieldLink RX8 41 "PeckYard$Flock" "stamp" "I" ∈ wsX8_gather := by decide +kernel
theorem kX8_gather_iX2 : ∀ w ∈ u_ws RX2 TX2 7, w ∈ wsX8_gather := by decide +kernel
theorem kX8_gather_f44 : Cond.fieldLink RX8 44 "PeckYard$Muster" "size" "I" ∈ wsX8_gather := by decide +kernel
theorem kX8_gather_f19 : Cond.fieldLink RX8 19 "PeckYard$Muster" "slotOf" "[I" ∈ wsX8_gather := by decide +kernel
theorem kX8_gather_f15 : Cond.fieldLink RX8 15 "PeckYard$Muster" "hens" "[I" ∈ wsX8_gather := by decide +kernel
theorem kX8_gather_f22 : Cond.fieldLink RX8 22 "PeckYard$Muster" "kind" "[I" ∈ wsX8_gather := by decide +kernel
theorem kX8_gather_f51 : Cond.fieldLink RX8 51 "PeckYard$Flock" "kind" "[I" ∈ wsX8_gather := by decide +kernel
theorem kX8_gather_f28 : Cond.fieldLink RX8 28 "PeckYard$Muster" "below" "[I" ∈ wsX8_gather := by decide +kernel
theorem kX8_gather_f31 : Cond.fieldLink RX8 31 "PeckYard$Muster" "pairs" "[I" ∈ wsX8_gather := by decide +kernel
def fX8_gather_133 (r133 : (Int32 × Sg) → Option (Sg)) (v1 : Int32) (sg : Sg) : Option (Sg) :=
  (if (sg 3 2) ≤ v1 then some sg else bnd1 (fX8_gatherPecks v1 sg) (fun sg2 => bnd1 (fX8_gatherAsking v1 sg2) (fun sg4 => lt (v1 + (1 : Int32)) (fun x6 => r133 (x6, sg4)))))
set_option maxHeartbeats 4000000 in
set_option maxRecDepth 100000 in
theorem tX8_gather_133 (C : Cx p s m args meth c cX8_gather 2 RX8 wsX8_gather none D vwCl (tysC T) A true nwL) {so : Sg} {r133 : (Int32 × Sg) → Option (Sg)} (hr133 : ∀ (v1 : Int32) (sg : Sg), r133 (v1, sg) = some so → ∀ (H : Heap) (locs : List Loc) (ls : Array Slot), WS ZC D vwCl T ad sg lg A s.heap H locs → lv_has ls 2 [(0, .ref (ad 3)), (1, .int v1)] → W p l e rmX8_gather s m args below meth c H locs 0 0 (MQ below (QV ZC D vwCl T (tysC T) A (fun z => ad = z) so lg) args s 0 0 A) (F0 m 133 ls [])) : ∀ (v1 : Int32) (sg : Sg), ∀ (H : Heap) (locs : List Loc) (ls : Array Slot), WS ZC D vwCl T ad sg lg A s.heap H locs → lv_has ls 2 [(0, .ref (ad 3)), (1, .int v1)] → fX8_gather_133 r133 v1 sg = some so → W p l e rmX8_gather s m args below meth c H locs 0 0 (MQ below (QV ZC D vwCl T (tysC T) A (fun z => ad = z) so lg) args s 0 0 A) (F0 m 133 ls []) := by
  obtain ⟨⟨hx, hb, hml, hown, hts⟩, hr, hlk, hK, hA, hsp⟩ := id C
  intro v1 sg H locs ls hw hl h
  unfold fX8_gather_133 at h
  refine lv_iload_n hx hb dX8_gather_133 rfl (lv_at hl 1 rfl) ?_
  refine lv_aload_n hx hb dX8_gather_134 rfl (lv_at hl 0 rfl) ?_
  refine r_getI (ci := 8) (C := RX8) (U := TX8) (N := 10) hx hb hts kX8_gather_iX8 hown hK hw 3 (by decide) rfl rfl 2 (by decide) rfl (hts _ kX8_gather_f44) (fun _ h9 => h9) dX8_gather_135 ?_
  refine lv_icmp_ge (tgt := 157) hx hb dX8_gather_138 (by decide) (fun c1 => ?_) (fun c1 => ?_)
  · replace h := ite_t h c1
    cases h
    exact r_vret C hw rfl (by decide) (by decide) dX8_gather_157
  · replace h := ite_f h c1
    refine lv_aload_n hx hb dX8_gather_141 rfl (lv_at hl 0 rfl) ?_
    refine lv_iload_n hx hb dX8_gather_142 rfl (lv_at hl 1 rfl) ?_
    obtain ⟨sg2, hq3, h2⟩ := bnd1_some h
    replace h := h2
    clear h2
    refine r_cVv (As := [.int v1]) (rest := []) C hw 3 (by decide) (ci := 8) rfl rfl (mX8_gatherPecks l D T ad lg H.size v1 sg hq3) (cwV 1 hts gX8_gather_X8_gatherPecks rfl rfl rfl (by decide +kernel) ⟨Nat.le_of_ble_eq_true rfl, Nat.le_of_ble_eq_true rfl⟩) rfl hl.1 rfl (Nat.le_of_ble_eq_true rfl) dX8_gather_143 ⟨Nat.le_of_ble_eq_true rfl, Nat.le_of_ble_eq_true rfl⟩ (fun ad' H locs hp hw => ?_)
    subst hp
    refine W.widen (k := 0) (n := 0) (by decide) (by decide) ?_
    refine lv_aload_n hx hb dX8_gather_146 rfl (lv_at hl 0 rfl) ?_
    refine lv_iload_n hx hb dX8_gather_147 rfl (lv_at hl 1 rfl) ?_
    obtain ⟨sg4, hq5, h2⟩ := bnd1_some h
    replace h := h2
    clear h2
    refine r_cVv (As := [.int v1]) (rest := []) C hw 3 (by decide) (ci := 8) rfl rfl (mX8_gatherAsking l D T ad lg H.size v1 sg2 hq5) (cwV 1 hts gX8_gather_X8_gatherAsking rfl rfl rfl (by decide +kernel) ⟨Nat.le_of_ble_eq_true rfl, Nat.le_of_ble_eq_true rfl⟩) rfl hl.1 rfl (Nat.le_of_ble_eq_true rfl) dX8_gather_148 ⟨Nat.le_of_ble_eq_true rfl, Nat.le_of_ble_eq_true rfl⟩ (fun ad' H locs hp hw => ?_)
    subst hp
    refine W.widen (k := 0) (n := 0) (by decide) (by decide) ?_
    obtain ⟨x6, ex6⟩ : ∃ z : Int32, z = (v1 + (1 : Int32)) := ⟨_, rfl⟩
    replace h := lt_get h x6 ex6
    refine lv_iinc (v := x6) (lv' := [(1, .int x6), (0, .ref (ad 3))]) hx hb dX8_gather_151 hl (k := 1) rfl (by rw [ex6]; rfl) (by decide) rfl (fun ls hl => ?_)
    refine lv_goto (tgt := 133) hx hb dX8_gather_154 (by decide) ?_
    exact hr133 x6 sg4 h _ _ _ hw (lv_sub hl [1, 0] rfl)
def LX8_gather_133  : (Int32 × Sg) → Option (Sg) := loop (fun rec z => fX8_gather_133 rec z.1 z.2)
theorem TX8_gather_133 (C : Cx p s m args meth c cX8_gather 2 RX8 wsX8_gather none D vwCl (tysC T) A true nwL) {so : Sg}   : ∀ (v1 : Int32) (sg : Sg), LX8_gather_133 (v1, sg) = some so → ∀ (H : Heap) (locs : List Loc) (ls : Array Slot), WS ZC D vwCl T ad sg lg A s.heap H locs → lv_has ls 2 [(0, .ref (ad 3)), (1, .int v1)] → W p l e rmX8_gather s m args below meth c H locs 0 0 (MQ below (QV ZC D vwCl T (tysC T) A (fun z => ad = z) so lg) args s 0 0 A) (F0 m 133 ls []) := by
  have key : ∀ z : (Int32 × Sg), LX8_gather_133  z = some so → ∀ (H : Heap) (locs : List Loc) (ls : Array Slot), WS ZC D vwCl T ad z.2 lg A s.heap H locs → lv_has ls 2 [(0, .ref (ad 3)), (1, .int z.1)] → W p l e rmX8_gather s m args below meth c H locs 0 0 (MQ below (QV ZC D vwCl T (tysC T) A (fun z => ad = z) so lg) args s 0 0 A) (F0 m 133 ls []) := by
    intro z h
    unfold LX8_gather_133 at h
    exact loop_ind (fun rec z => fX8_gather_133 rec z.1 z.2) (y := so) (P := fun z => ∀ (H : Heap) (locs : List Loc) (ls : Array Slot), WS ZC D vwCl T ad z.2 lg A s.heap H locs → lv_has ls 2 [(0, .ref (ad 3)), (1, .int z.1)] → W p l e rmX8_gather s m args below meth c H locs 0 0 (MQ below (QV ZC D vwCl T (tysC T) A (fun z => ad = z) so lg) args s 0 0 A) (F0 m 133 ls [])) (fun rec hrec z h H locs ls hw hl => tX8_gather_133 C  (fun v1 sg => hrec (v1, sg)) z.1 z.2 H locs ls hw hl h) z h
  exact fun v1 sg => key (v1, sg)
def fX8_gather_125 (r33 : (Int32 × Sg) → Option (Sg)) (v1 : Int32) (sg : Sg) : Option (Sg) :=
  lt (v1 + (1 : Int32)) (fun x1 => r33 (x1, sg))
set_option maxHeartbeats 4000000 in
set_option maxRecDepth 100000 in
theorem tX8_gather_125 (C : Cx p s m args meth c cX8_gather 2 RX8 wsX8_gather none D vwCl (tysC T) A true nwL) {so : Sg} {r33 : (Int32 × Sg) → Option (Sg)} (hr33 : ∀ (v1 : Int32) (sg : Sg), r33 (v1, sg) = some so → ∀ (H : Heap) (locs : List Loc) (ls : Array Slot), WS ZC D vwCl T ad sg lg A s.heap H locs → lv_has ls 2 [(0, .ref (ad 3)), (1, .int v1)] → W p l e rmX8_gather s m args below meth c H locs 0 0 (MQ below (QV ZC D vwCl T (tysC T) A (fun z => ad = z) so lg) args s 0 0 A) (F0 m 33 ls [])) : ∀ (v1 : Int32) (sg : Sg), ∀ (H : Heap) (locs : List Loc) (ls : Array Slot), WS ZC D vwCl T ad sg lg A s.heap H locs → lv_has ls 2 [(0, .ref (ad 3)), (1, .int v1)] → fX8_gather_125 r33 v1 sg = some so → W p l e rmX8_gather s m args below meth c H locs 0 0 (MQ below (QV ZC D vwCl T (tysC T) A (fun z => ad = z) so lg) args s 0 0 A) (F0 m 125 ls []) := by
  obtain ⟨⟨hx, hb, hml, hown, hts⟩, hr, hlk, hK, hA, hsp⟩ := id C
  intro v1 sg H locs ls hw hl h
  unfold fX8_gather_125 at h
  obtain ⟨x1, ex1⟩ : ∃ z : Int32, z = (v1 + (1 : Int32)) := ⟨_, rfl⟩
  replace h := lt_get h x1 ex1
  refine lv_iinc (v := x1) (lv' := [(1, .int x1), (0, .ref (ad 3))]) hx hb dX8_gather_125 hl (k := 1) rfl (by rw [ex1]; rfl) (by decide) rfl (fun ls hl => ?_)
  refine lv_goto (tgt := 33) hx hb dX8_gather_128 (by decide) ?_
  exact hr33 x1 sg h _ _ _ hw (lv_sub hl [1, 0] rfl)
def fX8_gather_33 (r33 : (Int32 × Sg) → Option (Sg)) (v1 : Int32) (sg : Sg) : Option (Sg) :=
  (if (12 : Int32) ≤ v1 then LX8_gather_133 ((0 : Int32), sg) else gin v1 12 (lt (up2 sg 18 v1.toNatClampNeg (-1 : Int32)) (fun sg3 => bnd2 (fX2_isCounted v1 sg3) (fun y4 sg5 => (if y4 = 0 then fX8_gather_125 r33 v1 sg5 else lt (sg5 3 2) (fun x8 => gin v1 12 (lt (up2 sg5 18 v1.toNatClampNeg x8) (fun sg10 => gin (sg10 3 2) 12 (lt (up2 sg10 17 (sg10 3 2).toNatClampNeg v1) (fun sg12 => gin v1 12 (lt (sg12 11 v1.toNatClampNeg) (fun x14 => gin (sg12 3 2) 12 (lt (up2 sg12 19 (sg12 3 2).toNatClampNeg x14) (fun sg16 => gin (sg16 3 2) 12 (lt (up2 sg16 21 (sg16 3 2).toNatClampNeg (0 : Int32)) (fun sg18 => gin (sg18 3 2) 12 (lt (up2 sg18 22 (sg18 3 2).toNatClampNeg (0 : Int32)) (fun sg20 => lt ((sg20 3 2) + (1 : Int32)) (fun x21 => lt (up2 sg20 3 2 x21) (fun sg22 => fX8_gather_125 r33 v1 sg22))))))))))))))))))))
set_option maxHeartbeats 4000000 in
set_option maxRecDepth 100000 in
theorem tX8_gather_33 (C : Cx p s m args meth c cX8_gather 2 RX8 wsX8_gather none D vwCl (tysC T) A true nwL) {so : Sg} {r33 : (Int32 × Sg) → Option (Sg)} (hr33 : ∀ (v1 : Int32) (sg : Sg), r33 (v1, sg) = some so → ∀ (H : Heap) (locs : List Loc) (ls : Array Slot), WS ZC D vwCl T ad sg lg A s.heap H locs → lv_has ls 2 [(0, .ref (ad 3)), (1, .int v1)] → W p l e rmX8_gather s m args below meth c H locs 0 0 (MQ below (QV ZC D vwCl T (tysC T) A (fun z => ad = z) so lg) args s 0 0 A) (F0 m 33 ls [])) : ∀ (v1 : Int32) (sg : Sg), ∀ (H : Heap) (locs : List Loc) (ls : Array Slot), WS ZC D vwCl T ad sg lg A s.heap H locs → lv_has ls 2 [(0, .ref (ad 3)), (1, .int v1)] → fX8_gather_33 r33 v1 sg = some so → W p l e rmX8_gather s m args below meth c H locs 0 0 (MQ below (QV ZC D vwCl T (tysC T) A (fun z => ad = z) so lg) args s 0 0 A) (F0 m 33 ls []) := by
  obtain ⟨⟨hx, hb, hml, hown, hts⟩, hr, hlk, hK, hA, hsp⟩ := id C
  intro v1 sg H locs ls hw hl h
  unfold fX8_gather_33 at h
  refine lv_iload_n hx hb dX8_gather_33 rfl (lv_at hl 1 rfl) ?_
  refine lv_bipush (v := (12 : Int32)) hx hb dX8_gather_34 (by decide) ?_
  refine lv_icmp_ge (tgt := 131) hx hb dX8_gather_36 (by decide) (fun c1 => ?_) (fun c1 => ?_)
  · replace h := ite_t h c1
    refine lv_iconst (v := (0 : Int32)) hx hb dX8_gather_131 (by decide) ?_
    refine lv_istore_n (lv' := [(1, .int (0 : Int32)), (0, .ref (ad 3))]) hx hb dX8_gather_132 rfl hl (by decide) rfl (fun ls hl => ?_)
    exact TX8_gather_133 C (0 : Int32) sg h _ _ _ hw (lv_sub hl [1, 0] rfl)
  · replace h := ite_f h c1
    refine lv_aload_n hx hb dX8_gather_39 rfl (lv_at hl 0 rfl) ?_
    refine r_getR (ci := 8) (C := RX8) (U := TX8) (N := 10) hx hb hts kX8_gather_iX8 hown hK hw 3 (by decide) rfl rfl 4 (by decide) 18 rfl (hts _ kX8_gather_f19) (fun _ h9 => h9) dX8_gather_40 ?_
    refine lv_iload_n hx hb dX8_gather_43 rfl (lv_at hl 1 rfl) ?_
    refine lv_iconst (v := (-1 : Int32)) hx hb dX8_gather_44 (by decide) ?_
    have hi2 := (gin_some h).1
    replace h := (gin_some h).2
    refine r_iast ZC_ok hx hb hK hw 18 0 12 (by decide) rfl rfl rfl hi2 dX8_gather_45 (fun H locs sg3 esg3 hw => ?_)
    replace h := lt_get h sg3 esg3
    refine lv_aload_n hx hb dX8_gather_46 rfl (lv_at hl 0 rfl) ?_
    refine r_getR (ci := 8) (C := RX8) (U := TX8) (N := 10) hx hb hts kX8_gather_iX8 hown hK hw 3 (by decide) rfl rfl 0 (by decide) 1 rfl (hts _ kX8_gather_f37) (fun _ h9 => h9) dX8_gather_47 ?_
    refine lv_iload_n hx hb dX8_gather_50 rfl (lv_at hl 1 rfl) ?_
    obtain ⟨y4, sg5, hq6, h2⟩ := bnd2_some h
    replace h := h2
    clear h2
    refine r_cVi (As := [.int v1]) (rest := []) C hw 1 (by decide) (ci := 2) rfl rfl (mX2_isCounted l D T ad lg H.size v1 sg3 hq6) (cwV 1 hts gX8_gather_X2_isCounted rfl rfl rfl (by decide +kernel) ⟨Nat.le_of_ble_eq_true rfl, Nat.le_of_ble_eq_true rfl⟩) rfl hl.1 rfl (Nat.le_of_ble_eq_true rfl) dX8_gather_51 ⟨Nat.le_of_ble_eq_true rfl, Nat.le_of_ble_eq_true rfl⟩ (fun ad' H locs hp hw => ?_)
    subst hp
    refine W.widen (k := 0) (n := 0) (by decide) (by decide) ?_
    refine lv_if_eq (tgt := 125) hx hb dX8_gather_54 (by decide) (fun c7 => ?_) (fun c7 => ?_)
    · replace h := ite_t h c7
      exact tX8_gather_125 C hr33 v1 sg5 _ _ _ hw (lv_sub hl [0, 1] rfl) h
    · replace h := ite_f h c7
      refine lv_aload_n hx hb dX8_gather_57 rfl (lv_at hl 0 rfl) ?_
      refine r_getR (ci := 8) (C := RX8) (U := TX8) (N := 10) hx hb hts kX8_gather_iX8 hown hK hw 3 (by decide) rfl rfl 4 (by decide) 18 rfl (hts _ kX8_gather_f19) (fun _ h9 => h9) dX8_gather_58 ?_
      refine lv_iload_n hx hb dX8_gather_61 rfl (lv_at hl 1 rfl) ?_
      refine lv_aload_n hx hb dX8_gather_62 rfl (lv_at hl 0 rfl) ?_
      refine r_getI (ci := 8) (C := RX8) (U := TX8) (N := 10) hx hb hts kX8_gather_iX8 hown hK hw 3 (by decide) rfl rfl 2 (by decide) rfl (hts _ kX8_gather_f44) (fun _ h9 => h9) dX8_gather_63 ?_
      refine lv_topi (fun x8 ex8 => ?_)
      replace h := lt_get h x8 ex8
      have hi9 := (gin_some h).1
      replace h := (gin_some h).2
      refine r_iast ZC_ok hx hb hK hw 18 0 12 (by decide) rfl rfl rfl hi9 dX8_gather_66 (fun H locs sg10 esg10 hw => ?_)
      replace h := lt_get h sg10 esg10
      refine lv_aload_n hx hb dX8_gather_67 rfl (lv_at hl 0 rfl) ?_
      refine r_getR (ci := 8) (C := RX8) (U := TX8) (N := 10) hx hb hts kX8_gather_iX8 hown hK hw 3 (by decide) rfl rfl 3 (by decide) 17 rfl (hts _ kX8_gather_f15) (fun _ h9 => h9) dX8_gather_68 ?_
      refine lv_aload_n hx hb dX8_gather_71 rfl (lv_at hl 0 rfl) ?_
      refine r_getI (ci := 8) (C := RX8) (U := TX8) (N := 10) hx hb hts kX8_gather_iX8 hown hK hw 3 (by decide) rfl rfl 2 (by decide) rfl (hts _ kX8_gather_f44) (fun _ h9 => h9) dX8_gather_72 ?_
      refine lv_iload_n hx hb dX8_gather_75 rfl (lv_at hl 1 rfl) ?_
      have hi11 := (gin_some h).1
      replace h := (gin_some h).2
      refine r_iast ZC_ok hx hb hK hw 17 0 12 (by decide) rfl rfl rfl hi11 dX8_gather_76 (fun H locs sg12 esg12 hw => ?_)
      replace h := lt_get h sg12 esg12
      refine lv_aload_n hx hb dX8_gather_77 rfl (lv_at hl 0 rfl) ?_
      refine r_getR (ci := 8) (C := RX8) (U := TX8) (N := 10) hx hb hts kX8_gather_iX8 hown hK hw 3 (by decide) rfl rfl 5 (by decide) 19 rfl (hts _ kX8_gather_f22) (fun _ h9 => h9) dX8_gather_78 ?_
      refine lv_aload_n hx hb dX8_gather_81 rfl (lv_at hl 0 rfl) ?_
      refine r_getI (ci := 8) (C := RX8) (U := TX8) (N := 10) hx hb hts kX8_gather_iX8 hown hK hw 3 (by decide) rfl rfl 2 (by decide) rfl (hts _ kX8_gather_f44) (fun _ h9 => h9) dX8_gather_82 ?_
      refine lv_aload_n hx hb dX8_gather_85 rfl (lv_at hl 0 rfl) ?_
      refine r_getR (ci := 8) (C := RX8) (U := TX8) (N := 10) hx hb hts kX8_gather_iX8 hown hK hw 3 (by decide) rfl rfl 0 (by decide) 1 rfl (hts _ kX8_gather_f37) (fun _ h9 => h9) dX8_gather_86 ?_
      refine r_getR (ci := 2) (C := RX2) (U := TX2) (N := 7) hx hb hts kX8_gather_iX2 hown hK hw 1 (by decide) rfl rfl 2 (by decide) 11 rfl (hts _ kX8_gather_f51) (fun _ h9 => h9) dX8_gather_89 ?_
      refine lv_iload_n hx hb dX8_gather_92 rfl (lv_at hl 1 rfl) ?_
      have hi13 := (gin_some h).1
      replace h := (gin_some h).2
      refine r_iald hx hb hK hw 11 0 12 (by decide) rfl rfl rfl hi13 dX8_gather_93 ?_
      refine lv_topi (fun x14 ex14 => ?_)
      replace h := lt_get h x14 ex14
      have hi15 := (gin_some h).1
      replace h := (gin_some h).2
      refine r_iast ZC_ok hx hb hK hw 19 0 12 (by decide) rfl rfl rfl hi15 dX8_gather_94 (fun H locs sg16 esg16 hw => ?_)
      replace h := lt_get h sg16 esg16
      refine lv_aload_n hx hb dX8_gather_95 rfl (lv_at hl 0 rfl) ?_
      refine r_getR (ci := 8) (C := RX8) (U := TX8) (N := 10) hx hb hts kX8_gather_iX8 hown hK hw 3 (by decide) rfl rfl 7 (by decide) 21 rfl (hts _ kX8_gather_f28) (fun _ h9 => h9) dX8_gather_96 ?_
      refine lv_aload_n hx hb dX8_gather_99 rfl (lv_at hl 0 rfl) ?_
      refine r_getI (ci := 8) (C := RX8) (U := TX8) (N := 10) hx hb hts kX8_gather_iX8 hown hK hw 3 (by decide) rfl rfl 2 (by decide) rfl (hts _ kX8_gather_f44) (fun _ h9 => h9) dX8_gather_100 ?_
      refine lv_iconst (v := (0 : Int32)) hx hb dX8_gather_103 (by decide) ?_
      have hi17 := (gin_some h).1
      replace h := (gin_some h).2
      refine r_iast ZC_ok hx hb hK hw 21 0 12 (by decide) rfl rfl rfl hi17 dX8_gather_104 (fun H locs sg18 esg18 hw => ?_)
      replace h := lt_get h sg18 esg18
      refine lv_aload_n hx hb dX8_gather_105 rfl (lv_at hl 0 rfl) ?_
      refine r_getR (ci := 8) (C := RX8) (U := TX8) (N := 10) hx hb hts kX8_gather_iX8 hown hK hw 3 (by decide) rfl rfl 8 (by decide) 22 rfl (hts _ kX8_gather_f31) (fun _ h9 => h9) dX8_gather_106 ?_
      refine lv_aload_n hx hb dX8_gather_109 rfl (lv_at hl 0 rfl) ?_
      refine r_getI (ci := 8) (C := RX8) (U := TX8) (N := 10) hx hb hts kX8_gather_iX8 hown hK hw 3 (by decide) rfl rfl 2 (by decide) rfl (hts _ kX8_gather_f44) (fun _ h9 => h9) dX8_gather_110 ?_
      refine lv_iconst (v := (0 : Int32)) hx hb dX8_gather_113 (by decide) ?_
      have hi19 := (gin_some h).1
      replace h := (gin_some h).2
      refine r_iast ZC_ok hx hb hK hw 22 0 12 (by decide) rfl rfl rfl hi19 dX8_gather_114 (fun H locs sg20 esg20 hw => ?_)
      replace h := lt_get h sg20 esg20
      refine lv_aload_n hx hb dX8_gather_115 rfl (lv_at hl 0 rfl) ?_
      refine lv_dup hx hb dX8_gather_116 rfl ?_
      refine r_getI (ci := 8) (C := RX8) (U := TX8) (N := 10) hx hb hts kX8_gather_iX8 hown hK hw 3 (by decide) rfl rfl 2 (by decide) rfl (hts _ kX8_gather_f44) (fun _ h9 => h9) dX8_gather_117 ?_
      refine lv_iconst (v := (1 : Int32)) hx hb dX8_gather_120 (by decide) ?_
      refine lv_iadd hx hb dX8_gather_121 ?_
      refine lv_topi (fun x21 ex21 => ?_)
      replace h := lt_get h x21 ex21
      refine r_putI ZC_ok (ci := 8) (C := RX8) (U := TX8) (N := 10) (ty := .int) hx hb hts kX8_gather_iX8 tyX8 tyX8_ok nmX8 hown hK hw 3 (by decide) rfl rfl 2 (by decide) rfl (hts _ kX8_gather_f44) (fun _ h9 => h9) rfl (by decide +kernel) rfl rfl dX8_gather_122 (fun H locs sg22 esg22 hw => ?_)
      replace h := lt_get h sg22 esg22
      exact tX8_gather_125 C hr33 v1 sg22 _ _ _ hw (lv_sub hl [0, 1] rfl) h
def LX8_gather_33  : (Int32 × Sg) → Option (Sg) := loop (fun rec z => fX8_gather_33 rec z.1 z.2)
theorem TX8_gather_33 (C : Cx p s m args meth c cX8_gather 2 RX8 wsX8_gather none D vwCl (tysC T) A true nwL) {so : Sg}   : ∀ (v1 : Int32) (sg : Sg), LX8_gather_33 (v1, sg) = some so → ∀ (H : Heap) (locs : List Loc) (ls : Array Slot), WS ZC D vwCl T ad sg lg A s.heap H locs → lv_has ls 2 [(0, .ref (ad 3)), (1, .int v1)] → W p l e rmX8_gather s m args below meth c H locs 0 0 (MQ below (QV ZC D vwCl T (tysC T) A (fun z => ad = z) so lg) args s 0 0 A) (F0 m 33 ls []) := by
  have key : ∀ z : (Int32 × Sg), LX8_gather_33  z = some so → ∀ (H : Heap) (locs : List Loc) (ls : Array Slot), WS ZC D vwCl T ad z.2 lg A s.heap H locs → lv_has ls 2 [(0, .ref (ad 3)), (1, .int z.1)] → W p l e rmX8_gather s m args below meth c H locs 0 0 (MQ below (QV ZC D vwCl T (tysC T) A (fun z => ad = z) so lg) args s 0 0 A) (F0 m 33 ls []) := by
    intro z h
    unfold LX8_gather_33 at h
    exact loop_ind (fun rec z => fX8_gather_33 rec z.1 z.2) (y := so) (P := fun z => ∀ (H : Heap) (locs : List Loc) (ls : Array Slot), WS ZC D vwCl T ad z.2 lg A s.heap H locs → lv_has ls 2 [(0, .ref (ad 3)), (1, .int z.1)] → W p l e rmX8_gather s m args below meth c H locs 0 0 (MQ below (QV ZC D vwCl T (tysC T) A (fun z => ad = z) so lg) args s 0 0 A) (F0 m 33 ls [])) (fun rec hrec z h H locs ls hw hl => tX8_gather_33 C  (fun v1 sg => hrec (v1, sg)) z.1 z.2 H locs ls hw hl h) z h
  exact fun v1 sg => key (v1, sg)
def fX8_gather  (sg : Sg) : Option (Sg) :=
  (if (sg 3 1) = (sg 1 1) then some sg else lt (sg 1 1) (fun x2 => lt (up2 sg 3 1 x2) (fun sg3 => lt (up2 sg3 3 2 (0 : Int32)) (fun sg4 => LX8_gather_33 ((0 : Int32), sg4)))))
set_option maxHeartbeats 4000000 in
set_option maxRecDepth 100000 in
theorem tX8_gather_0 (C : Cx p s m args meth c cX8_gather 2 RX8 wsX8_gather none D vwCl (tysC T) A true nwL) {so : Sg}   : ∀ (sg : Sg), ∀ (H : Heap) (locs : List Loc) (ls : Array Slot), WS ZC D vwCl T ad sg lg A s.heap H locs → lv_has ls 2 [(0, .ref (ad 3))] → fX8_gather sg = some so → W p l e rmX8_gather s m args below meth c H locs 0 0 (MQ below (QV ZC D vwCl T (tysC T) A (fun z => ad = z) so lg) args s 0 0 A) (F0 m 0 ls []) := by
  obtain ⟨⟨hx, hb, hml, hown, hts⟩, hr, hlk, hK, hA, hsp⟩ := id C
  intro sg H locs ls hw hl h
  unfold fX8_gather at h
  refine lv_aload_n hx hb dX8_gather_0 rfl (lv_at hl 0 rfl) ?_
  refine r_getI (ci := 8) (C := RX8) (U := TX8) (N := 10) hx hb hts kX8_gather_iX8 hown hK hw 3 (by decide) rfl rfl 1 (by decide) rfl (hts _ kX8_gather_f9) (fun _ h9 => h9) dX8_gather_1 ?_
  refine lv_aload_n hx hb dX8_gather_4 rfl (lv_at hl 0 rfl) ?_
  refine r_getR (ci := 8) (C := RX8) (U := TX8) (N := 10) hx hb hts kX8_gather_iX8 hown hK hw 3 (by decide) rfl rfl 0 (by decide) 1 rfl (hts _ kX8_gather_f37) (fun _ h9 => h9) dX8_gather_5 ?_
  refine r_getI (ci := 2) (C := RX2) (U := TX2) (N := 7) hx hb hts kX8_gather_iX2 hown hK hw 1 (by decide) rfl rfl 1 (by decide) rfl (hts _ kX8_gather_f41) (fun _ h9 => h9) dX8_gather_8 ?_
  refine lv_icmp_ne (tgt := 15) hx hb dX8_gather_11 (by decide) (fun c1 => ?_) (fun c1 => ?_)
  · replace h := ite_f h c1
    refine lv_aload_n hx hb dX8_gather_15 rfl (lv_at hl 0 rfl) ?_
    refine lv_aload_n hx hb dX8_gather_16 rfl (lv_at hl 0 rfl) ?_
    refine r_getR (ci := 8) (C := RX8) (U := TX8) (N := 10) hx hb hts kX8_gather_iX8 hown hK hw 3 (by decide) rfl rfl 0 (by decide) 1 rfl (hts _ kX8_gather_f37) (fun _ h9 => h9) dX8_gather_17 ?_
    refine r_getI (ci := 2) (C := RX2) (U := TX2) (N := 7) hx hb hts kX8_gather_iX2 hown hK hw 1 (by decide) rfl rfl 1 (by decide) rfl (hts _ kX8_gather_f41) (fun _ h9 => h9) dX8_gather_20 ?_
    refine lv_topi (fun x2 ex2 => ?_)
    replace h := lt_get h x2 ex2
    refine r_putI ZC_ok (ci := 8) (C := RX8) (U := TX8) (N := 10) (ty := .int) hx hb hts kX8_gather_iX8 tyX8 tyX8_ok nmX8 hown hK hw 3 (by decide) rfl rfl 1 (by decide) rfl (hts _ kX8_gather_f9) (fun _ h9 => h9) rfl (by decide +kernel) rfl rfl dX8_gather_23 (fun H locs sg3 esg3 hw => ?_)
    replace h := lt_get h sg3 esg3
    refine lv_aload_n hx hb dX8_gather_26 rfl (lv_at hl 0 rfl) ?_
    refine lv_iconst (v := (0 : Int32)) hx hb dX8_gather_27 (by decide) ?_
    refine r_putI ZC_ok (ci := 8) (C := RX8) (U := TX8) (N := 10) (ty := .int) hx hb hts kX8_gather_iX8 tyX8 tyX8_ok nmX8 hown hK hw 3 (by decide) rfl rfl 2 (by decide) rfl (hts _ kX8_gather_f44) (fun _ h9 => h9) rfl (by decide +kernel) rfl rfl dX8_gather_28 (fun H locs sg4 esg4 hw => ?_)
    replace h := lt_get h sg4 esg4
    refine lv_iconst (v := (0 : Int32)) hx hb dX8_gather_31 (by decide) ?_
    refine lv_istore_n (lv' := [(1, .int (0 : Int32)), (0, .ref (ad 3))]) hx hb dX8_gather_32 rfl hl (by decide) rfl (fun ls hl => ?_)
    exact TX8_gather_33 C (0 : Int32) sg4 h _ _ _ hw (lv_sub hl [1, 0] rfl)
  · replace h := ite_t h c1
    cases h
    exact r_vret C hw rfl (by decide) (by decide) dX8_gather_14
theorem mX8_gather (l : Launch) (D : va_G) (T : Nat → ClassId) (ad : Nat → Nat) (lg : Lg) (sz : Nat)   (sg : Sg) {so : Sg} (h : fX8_gather sg = some so) : Met l yX8_gather wsX8_gather rmX8_gather (PreZ ZC D vwCl T (tysC T) ad sg lg true nwL [.ref (ad 3)] sz) (QV ZC D vwCl T (tysC T) (va_A (zwd ZC T ad sg lg) sz) (fun z => ad = z) so lg) 0 0 (va_A (zwd ZC T ad sg lg) sz) :=
  metZ [.ref (ad 3)] sz (by decide) rfl (Nat.le_of_ble_eq_true rfl) (fun p e s m below meth c ls C hw hl => tX8_gather_0 C sg _ _ _ hw hl h)
-- PeckYard$Halves.spreadUnion([III)V
def rmX4_spreadUnion_c28 : Room := { frames := 0, cells := 0, slots := 0, locals := 0 }
def fX4_spreadUnion_c28_7 (r7 : (Int32 × Int32 × Int32 × Sg) → Option (Sg)) (v2 : Int32) (v3 : Int32) (v4 : Int32) (sg : Sg) : Option (Sg) :=
  (if v3 ≤ v4 then some sg else gin v4 64 (lt ((sg 28 v4.toNatClampNeg) ||| v2) (fun x3 => gin (v3 + v4) 64 (lt (up2 sg 28 (v3 + v4).toNatClampNeg x3) (fun sg5 => lt (v4 + (1 : Int32)) (fun x6 => r7 (v2, v3, x6, sg5)))))))
set_option maxHeartbeats 4000000 in
set_option maxRecDepth 100000 in
theorem tX4_spreadUnion_c28_7 (C : Cx p s m args meth c cX4_spreadUnion 5 RX4 wsX4_spreadUnion none D vwCl (tysC T) A true nwL) {so : Sg} {r7 : (Int32 × Int32 × Int32 × Sg) → Option (Sg)} (hr7 : ∀ (v2 : Int32) (v3 : Int32) (v4 : Int32) (sg : Sg), r7 (v2, v3, v4, sg) = some so → ∀ (H : Heap) (locs : List Loc) (ls : Array Slot), WS ZC D vwCl T ad sg lg A s.heap H locs → lv_has ls 5 [(0, .ref (ad 28)), (2, .int v2), (3, .int v3), (4, .int v4)] → W p l e rmX4_spreadUnion_c28 s m args below meth c H locs 0 0 (MQ below (QV ZC D vwCl T (tysC T) A (fun z => ad = z) so lg) args s 0 0 A) (F0 m 7 ls [])) : ∀ (v2 : Int32) (v3 : Int32) (v4 : Int32) (sg : Sg), ∀ (H : Heap) (locs : List Loc) (ls : Array Slot), WS ZC D vwCl T ad sg lg A s.heap H locs → lv_has ls 5 [(0, .ref (ad 28)), (2, .int v2), (3, .int v3), (4, .int v4)] → fX4_spreadUnion_c28_7 r7 v2 v3 v4 sg = some so → W p l e rmX4_spreadUnion_c28 s m args below meth c H locs 0 0 (MQ below (QV ZC D vwCl T (tysC T) A (fun z => ad = z) so lg) args s 0 0 A) (F0 m 7 ls []) := by
  obtain ⟨⟨hx, hb, hml, hown, hts⟩, hr, hlk, hK, hA, hsp⟩ := id C
  intro v2 v3 v4 sg H locs ls hw hl h
  unfold fX4_spreadUnion_c28_7 at h
  refine lv_iload hx hb dX4_spreadUnion_7 (lv_at hl 3 rfl) ?_
  refine lv_iload_n hx hb dX4_spreadUnion_9 rfl (lv_at hl 2 rfl) ?_
  refine lv_icmp_ge (tgt := 31) hx hb dX4_spreadUnion_10 (by decide) (fun c1 => ?_) (fun c1 => ?_)
  · replace h := ite_t h c1
    cases h
    exact r_vret C hw rfl (by decide) (by decide) dX4_spreadUnion_31
  · replace h := ite_f h c1
    refine lv_aload_n hx hb dX4_spreadUnion_13 rfl (lv_at hl 0 rfl) ?_
    refine lv_iload_n hx hb dX4_spreadUnion_14 rfl (lv_at hl 2 rfl) ?_
    refine lv_iload hx hb dX4_spreadUnion_15 (lv_at hl 3 rfl) ?_
    refine lv_iadd hx hb dX4_spreadUnion_17 ?_
    refine lv_aload_n hx hb dX4_spreadUnion_18 rfl (lv_at hl 0 rfl) ?_
    refine lv_iload hx hb dX4_spreadUnion_19 (lv_at hl 3 rfl) ?_
    have hi2 := (gin_some h).1
    replace h := (gin_some h).2
    refine r_iald hx hb hK hw 28 0 64 (by decide) rfl rfl rfl hi2 dX4_spreadUnion_21 ?_
    refine lv_iload_n hx hb dX4_spreadUnion_22 rfl (lv_at hl 1 rfl) ?_
    refine lv_ior hx hb dX4_spreadUnion_23 ?_
    refine lv_topi (fun x3 ex3 => ?_)
    replace h := lt_get h x3 ex3
    have hi4 := (gin_some h).1
    replace h := (gin_some h).2
    refine r_iast ZC_ok hx hb hK hw 28 0 64 (by decide) rfl rfl rfl hi4 dX4_spreadUnion_24 (fun H locs sg5 esg5 hw => ?_)
    replace h := lt_get h sg5 esg5
    obtain ⟨x6, ex6⟩ : ∃ z : Int32, z = (v4 + (1 : Int32)) := ⟨_, rfl⟩
    replace h := lt_get h x6 ex6
    refine lv_iinc (v := x6) (lv' := [(4, .int x6), (0, .ref (ad 28)), (2, .int v2), (3, .int v3)]) hx hb dX4_spreadUnion_25 hl (k := 3) rfl (by rw [ex6]; rfl) (by decide) rfl (fun ls hl => ?_)
    refine lv_goto (tgt := 7) hx hb dX4_spreadUnion_28 (by decide) ?_
    exact hr7 v2 v3 x6 sg5 h _ _ _ hw (lv_sub hl [1, 2, 3, 0] rfl)
def LX4_spreadUnion_c28_7  : (Int32 × Int32 × Int32 × Sg) → Option (Sg) := loop (fun rec z => fX4_spreadUnion_c28_7 rec z.1 z.2.1 z.2.2.1 z.2.2.2)
theorem TX4_spreadUnion_c28_7 (C : Cx p s m args meth c cX4_spreadUnion 5 RX4 wsX4_spreadUnion none D vwCl (tysC T) A true nwL) {so : Sg}   : ∀ (v2 : Int32) (v3 : Int32) (v4 : Int32) (sg : Sg), LX4_spreadUnion_c28_7 (v2, v3, v4, sg) = some so → ∀ (H : Heap) (locs : List Loc) (ls : Array Slot), WS ZC D vwCl T ad sg lg A s.heap H locs → lv_has ls 5 [(0, .ref (ad 28)), (2, .int v2), (3, .int v3), (4, .int v4)] → W p l e rmX4_spreadUnion_c28 s m args below meth c H locs 0 0 (MQ below (QV ZC D vwCl T (tysC T) A (fun z => ad = z) so lg) args s 0 0 A) (F0 m 7 ls []) := by
  have key : ∀ z : (Int32 × Int32 × Int32 × Sg), LX4_spreadUnion_c28_7  z = some so → ∀ (H : Heap) (locs : List Loc) (ls : Array Slot), WS ZC D vwCl T ad z.2.2.2 lg A s.heap H locs → lv_has ls 5 [(0, .ref (ad 28)), (2, .int z.1), (3, .int z.2.1), (4, .int z.2.2.1)] → W p l e rmX4_spreadUnion_c28 s m args below meth c H locs 0 0 (MQ below (QV ZC D vwCl T (tysC T) A (fun z => ad = z) so lg) args s 0 0 A) (F0 m 7 ls []) := by
    intro z h
    unfold LX4_spreadUnion_c28_7 at h
    exact loop_ind (fun rec z => fX4_spreadUnion_c28_7 rec z.1 z.2.1 z.2.2.1 z.2.2.2) (y := so) (P := fun z => ∀ (H : Heap) (locs : List Loc) (ls : Array Slot), WS ZC D vwCl T ad z.2.2.2 lg A s.heap H locs → lv_has ls 5 [(0, .ref (ad 28)), (2, .int z.1), (3, .int z.2.1), (4, .int z.2.2.1)] → W p l e rmX4_spreadUnion_c28 s m args below meth c H locs 0 0 (MQ below (QV ZC D vwCl T (tysC T) A (fun z => ad = z) so lg) args s 0 0 A) (F0 m 7 ls [])) (fun rec hrec z h H locs ls hw hl => tX4_spreadUnion_c28_7 C  (fun v2 v3 v4 sg => hrec (v2, v3, v4, sg)) z.1 z.2.1 z.2.2.1 z.2.2.2 H locs ls hw hl h) z h
  exact fun v2 v3 v4 sg => key (v2, v3, v4, sg)
def fX4_spreadUnion_c28  (v1 : Int32) (v2 : Int32) (sg : Sg) : Option (Sg) :=
  lt ((1 : Int32) <<< (v1 &&& 31)) (fun x1 => LX4_spreadUnion_c28_7 (v2, x1, (0 : Int32), sg))
set_option maxHeartbeats 4000000 in
set_option maxRecDepth 100000 in
theorem tX4_spreadUnion_c28_0 (C : Cx p s m args meth c cX4_spreadUnion 5 RX4 wsX4_spreadUnion none D vwCl (tysC T) A true nwL) {so : Sg}   : ∀ (v1 : Int32) (v2 : Int32) (sg : Sg), ∀ (H : Heap) (locs : List Loc) (ls : Array Slot), WS ZC D vwCl T ad sg lg A s.heap H locs → lv_has ls 5 [(0, .ref (ad 28)), (1, .int v1), (2, .int v2)] → fX4_spreadUnion_c28 v1 v2 sg = some so → W p l e rmX4_spreadUnion_c28 s m args below meth c H locs 0 0 (MQ below (QV ZC D vwCl T (tysC T) A (fun z => ad = z) so lg) args s 0 0 A) (F0 m 0 ls []) := by
  obtain ⟨⟨hx, hb, hml, hown, hts⟩, hr, hlk, hK, hA, hsp⟩ := id C
  intro v1 v2 sg H locs ls hw hl h
  unfold fX4_spreadUnion_c28 at h
  refine lv_iconst (v := (1 : Int32)) hx hb dX4_spreadUnion_0 (by decide) ?_
  refine lv_iload_n hx hb dX4_spreadUnion_1 rfl (lv_at hl 1 rfl) ?_
  refine lv_ishl hx hb dX4_spreadUnion_2 ?_
  refine lv_topi (fun x1 ex1 => ?_)
  replace h := lt_get h x1 ex1
  refine lv_istore_n (lv' := [(3, .int x1), (0, .ref (ad 28)), (1, .int v1), (2, .int v2)]) hx hb dX4_spreadUnion_3 rfl hl (by decide) rfl (fun ls hl => ?_)
  refine lv_iconst (v := (0 : Int32)) hx hb dX4_spreadUnion_4 (by decide) ?_
  refine lv_istore (lv' := [(4, .int (0 : Int32)), (3, .int x1), (0, .ref (ad 28)), (1, .int v1), (2, .int v2)]) hx hb dX4_spreadUnion_5 hl (by decide) rfl (fun ls hl => ?_)
  exact TX4_spreadUnion_c28_7 C v2 x1 (0 : Int32) sg h _ _ _ hw (lv_sub hl [2, 4, 1, 0] rfl)
theorem mX4_spreadUnion_c28 (l : Launch) (D : va_G) (T : Nat → ClassId) (ad : Nat → Nat) (lg : Lg) (sz : Nat)   (v1 : Int32) (v2 : Int32) (sg : Sg) {so : Sg} (h : fX4_spreadUnion_c28 v1 v2 sg = some so) : Met l yX4_spreadUnion wsX4_spreadUnion rmX4_spreadUnion_c28 (PreZ ZC D vwCl T (tysC T) ad sg lg true nwL [.ref (ad 28), .int v1, .int v2] sz) (QV ZC D vwCl T (tysC T) (va_A (zwd ZC T ad sg lg) sz) (fun z => ad = z) so lg) 0 0 (va_A (zwd ZC T ad sg lg) sz) :=
  metZ [.ref (ad 28), .int v1, .int v2] sz (by decide) rfl (Nat.le_of_ble_eq_true rfl) (fun p e s m below meth c ls C hw hl => tX4_spreadUnion_c28_0 C v1 v2 sg _ _ _ hw hl h)
-- PeckYard$Halves.spreadUnion([III)V
def rmX4_spreadUnion_c30 : Room := { frames := 0, cells := 0, slots := 0, locals := 0 }
def fX4_spreadUnion_c30_7 (r7 : (Int32 × Int32 × Int32 × Sg) → Option (Sg)) (v2 : Int32) (v3 : Int32) (v4 : Int32) (sg : Sg) : Option (Sg) :=
  (if v3 ≤ v4 then some sg else gin v4 64 (lt ((sg 30 v4.toNatClampNeg) ||| v2) (fun x3 => gin (v3 + v4) 64 (lt (up2 sg 30 (v3 + v4).toNatClampNeg x3) (fun sg5 => lt (v4 + (1 : Int32)) (fun x6 => r7 (v2, v3, x6, sg5)))))))
set_option maxHeartbeats 4000000 in
set_option maxRecDepth 100000 in
theorem tX4_spreadUnion_c30_7 (C : Cx p s m args meth c cX4_spreadUnion 5 RX4 wsX4_spreadUnion none D vwCl (tysC T) A true nwL) {so : Sg} {r7 : (Int32 × Int32 × Int32 × Sg) → Option (Sg)} (hr7 : ∀ (v2 : Int32) (v3 : Int32) (v4 : Int32) (sg : Sg), r7 (v2, v3, v4, sg) = some so → ∀ (H : Heap) (locs : List Loc) (ls : Array Slot), WS ZC D vwCl T ad sg lg A s.heap H locs → lv_has ls 5 [(0, .ref (ad 30)), (2, .int v2), (3, .int v3), (4, .int v4)] → W p l e rmX4_spreadUnion_c30 s m args below meth c H locs 0 0 (MQ below (QV ZC D vwCl T (tysC T) A (fun z => ad = z) so lg) args s 0 0 A) (F0 m 7 ls [])) : ∀ (v2 : Int32) (v3 : Int32) (v4 : Int32) (sg : Sg), ∀ (H : Heap) (locs : List Loc) (ls : Array Slot), WS ZC D vwCl T ad sg lg A s.heap H locs → lv_has ls 5 [(0, .ref (ad 30)), (2, .int v2), (3, .int v3), (4, .int v4)] → fX4_spreadUnion_c30_7 r7 v2 v3 v4 sg = some so → W p l e rmX4_spreadUnion_c30 s m args below meth c H locs 0 0 (MQ below (QV ZC D vwCl T (tysC T) A (fun z => ad = z) so lg) args s 0 0 A) (F0 m 7 ls []) := by
  obtain ⟨⟨hx, hb, hml, hown, hts⟩, hr, hlk, hK, hA, hsp⟩ := id C
  intro v2 v3 v4 sg H locs ls hw hl h
  unfold fX4_spreadUnion_c30_7 at h
  refine lv_iload hx hb dX4_spreadUnion_7 (lv_at hl 3 rfl) ?_
  refine lv_iload_n hx hb dX4_spreadUnion_9 rfl (lv_at hl 2 rfl) ?_
  refine lv_icmp_ge (tgt := 31) hx hb dX4_spreadUnion_10 (by decide) (fun c1 => ?_) (fun c1 => ?_)
  · replace h := ite_t h c1
    cases h
    exact r_vret C hw rfl (by decide) (by decide) dX4_spreadUnion_31
  · replace h := ite_f h c1
    refine lv_aload_n hx hb dX4_spreadUnion_13 rfl (lv_at hl 0 rfl) ?_
    refine lv_iload_n hx hb dX4_spreadUnion_14 rfl (lv_at hl 2 rfl) ?_
    refine lv_iload hx hb dX4_spreadUnion_15 (lv_at hl 3 rfl) ?_
    refine lv_iadd hx hb dX4_spreadUnion_17 ?_
    refine lv_aload_n hx hb dX4_spreadUnion_18 rfl (lv_at hl 0 rfl) ?_
    refine lv_iload hx hb dX4_spreadUnion_19 (lv_at hl 3 rfl) ?_
    have hi2 := (gin_some h).1
    replace h := (gin_some h).2
    refine r_iald hx hb hK hw 30 0 64 (by decide) rfl rfl rfl hi2 dX4_spreadUnion_21 ?_
    refine lv_iload_n hx hb dX4_spreadUnion_22 rfl (lv_at hl 1 rfl) ?_
    refine lv_ior hx hb dX4_spreadUnion_23 ?_
    refine lv_topi (fun x3 ex3 => ?_)
    replace h := lt_get h x3 ex3
    have hi4 := (gin_some h).1
    replace h := (gin_some h).2
    refine r_iast ZC_ok hx hb hK hw 30 0 64 (by decide) rfl rfl rfl hi4 dX4_spreadUnion_24 (fun H locs sg5 esg5 hw => ?_)
    replace h := lt_get h sg5 esg5
    obtain ⟨x6, ex6⟩ : ∃ z : Int32, z = (v4 + (1 : Int32)) := ⟨_, rfl⟩
    replace h := lt_get h x6 ex6
    refine lv_iinc (v := x6) (lv' := [(4, .int x6), (0, .ref (ad 30)), (2, .int v2), (3, .int v3)]) hx hb dX4_spreadUnion_25 hl (k := 3) rfl (by rw [ex6]; rfl) (by decide) rfl (fun ls hl => ?_)
    refine lv_goto (tgt := 7) hx hb dX4_spreadUnion_28 (by decide) ?_
    exact hr7 v2 v3 x6 sg5 h _ _ _ hw (lv_sub hl [1, 2, 3, 0] rfl)
def LX4_spreadUnion_c30_7  : (Int32 × Int32 × Int32 × Sg) → Option (Sg) := loop (fun rec z => fX4_spreadUnion_c30_7 rec z.1 z.2.1 z.2.2.1 z.2.2.2)
theorem TX4_spreadUnion_c30_7 (C : Cx p s m args meth c cX4_spreadUnion 5 RX4 wsX4_spreadUnion none D vwCl (tysC T) A true nwL) {so : Sg}   : ∀ (v2 : Int32) (v3 : Int32) (v4 : Int32) (sg : Sg), LX4_spreadUnion_c30_7 (v2, v3, v4, sg) = some so → ∀ (H : Heap) (locs : List Loc) (ls : Array Slot), WS ZC D vwCl T ad sg lg A s.heap H locs → lv_has ls 5 [(0, .ref (ad 30)), (2, .int v2), (3, .int v3), (4, .int v4)] → W p l e rmX4_spreadUnion_c30 s m args below meth c H locs 0 0 (MQ below (QV ZC D vwCl T (tysC T) A (fun z => ad = z) so lg) args s 0 0 A) (F0 m 7 ls []) := by
  have key : ∀ z : (Int32 × Int32 × Int32 × Sg), LX4_spreadUnion_c30_7  z = some so → ∀ (H : Heap) (locs : List Loc) (ls : Array Slot), WS ZC D vwCl T ad z.2.2.2 lg A s.heap H locs → lv_has ls 5 [(0, .ref (ad 30)), (2, .int z.1), (3, .int z.2.1), (4, .int z.2.2.1)] → W p l e rmX4_spreadUnion_c30 s m args below meth c H locs 0 0 (MQ below (QV ZC D vwCl T (tysC T) A (fun z => ad = z) so lg) args s 0 0 A) (F0 m 7 ls []) := by
    intro z h
    unfold LX4_spreadUnion_c30_7 at h
    exact loop_ind (fun rec z => fX4_spreadUnion_c30_7 rec z.1 z.2.1 z.2.2.1 z.2.2.2) (y := so) (P := fun z => ∀ (H : Heap) (locs : List Loc) (ls : Array Slot), WS ZC D vwCl T ad z.2.2.2 lg A s.heap H locs → lv_has ls 5 [(0, .ref (ad 30)), (2, .int z.1), (3, .int z.2.1), (4, .int z.2.2.1)] → W p l e rmX4_spreadUnion_c30 s m args below meth c H locs 0 0 (MQ below (QV ZC D vwCl T (tysC T) A (fun z => ad = z) so lg) args s 0 0 A) (F0 m 7 ls [])) (fun rec hrec z h H locs ls hw hl => tX4_spreadUnion_c30_7 C  (fun v2 v3 v4 sg => hrec (v2, v3, v4, sg)) z.1 z.2.1 z.2.2.1 z.2.2.2 H locs ls hw hl h) z h
  exact fun v2 v3 v4 sg => key (v2, v3, v4, sg)
def fX4_spreadUnion_c30  (v1 : Int32) (v2 : Int32) (sg : Sg) : Option (Sg) :=
  lt ((1 : Int32) <<< (v1 &&& 31)) (fun x1 => LX4_spreadUnion_c30_7 (v2, x1, (0 : Int32), sg))
set_option maxHeartbeats 4000000 in
set_option maxRecDepth 100000 in
theorem tX4_spreadUnion_c30_0 (C : Cx p s m args meth c cX4_spreadUnion 5 RX4 wsX4_spreadUnion none D vwCl (tysC T) A true nwL) {so : Sg}   : ∀ (v1 : Int32) (v2 : Int32) (sg : Sg), ∀ (H : Heap) (locs : List Loc) (ls : Array Slot), WS ZC D vwCl T ad sg lg A s.heap H locs → lv_has ls 5 [(0, .ref (ad 30)), (1, .int v1), (2, .int v2)] → fX4_spreadUnion_c30 v1 v2 sg = some so → W p l e rmX4_spreadUnion_c30 s m args below meth c H locs 0 0 (MQ below (QV ZC D vwCl T (tysC T) A (fun z => ad = z) so lg) args s 0 0 A) (F0 m 0 ls []) := by
  obtain ⟨⟨hx, hb, hml, hown, hts⟩, hr, hlk, hK, hA, hsp⟩ := id C
  intro v1 v2 sg H locs ls hw hl h
  unfold fX4_spreadUnion_c30 at h
  refine lv_iconst (v := (1 : Int32)) hx hb dX4_spreadUnion_0 (by decide) ?_
  refine lv_iload_n hx hb dX4_spreadUnion_1 rfl (lv_at hl 1 rfl) ?_
  refine lv_ishl hx hb dX4_spreadUnion_2 ?_
  refine lv_topi (fun x1 ex1 => ?_)
  replace h := lt_get h x1 ex1
  refine lv_istore_n (lv' := [(3, .int x1), (0, .ref (ad 30)), (1, .int v1), (2, .int v2)]) hx hb dX4_spreadUnion_3 rfl hl (by decide) rfl (fun ls hl => ?_)
  refine lv_iconst (v := (0 : Int32)) hx hb dX4_spreadUnion_4 (by decide) ?_
  refine lv_istore (lv' := [(4, .int (0 : Int32)), (3, .int x1), (0, .ref (ad 30)), (1, .int v1), (2, .int v2)]) hx hb dX4_spreadUnion_5 hl (by decide) rfl (fun ls hl => ?_)
  exact TX4_spreadUnion_c30_7 C v2 x1 (0 : Int32) sg h _ _ _ hw (lv_sub hl [2, 4, 1, 0] rfl)
theorem mX4_spreadUnion_c30 (l : Launch) (D : va_G) (T : Nat → ClassId) (ad : Nat → Nat) (lg : Lg) (sz : Nat)   (v1 : Int32) (v2 : Int32) (sg : Sg) {so : Sg} (h : fX4_spreadUnion_c30 v1 v2 sg = some so) : Met l yX4_spreadUnion wsX4_spreadUnion rmX4_spreadUnion_c30 (PreZ ZC D vwCl T (tysC T) ad sg lg true nwL [.ref (ad 30), .int v1, .int v2] sz) (QV ZC D vwCl T (tysC T) (va_A (zwd ZC T ad sg lg) sz) (fun z => ad = z) so lg) 0 0 (va_A (zwd ZC T ad sg lg) sz) :=
  metZ [.ref (ad 30), .int v1, .int v2] sz (by decide) rfl (Nat.le_of_ble_eq_true rfl) (fun p e s m below meth c ls C hw hl => tX4_spreadUnion_c30_0 C v1 v2 sg _ _ _ hw hl h)
-- PeckYard$Muster.peckOf(II)I
def rmX8_peckOf : Room := { frames := 0, cells := 0, slots := 0, locals := 0 }
theorem kX8_peckOf_f34 : Cond.fieldLink RX8 34 "PeckYard$Muster" "pecks" "[I" ∈ wsX8_peckOf := by decide +kernel
theorem kX8_peckOf_iX8 : ∀ w ∈ u_ws RX8 TX8 10, w ∈ wsX8_peckOf := by decide +kernel
def fX8_peckOf  (v1 : Int32) (v2 : Int32) (sg : Sg) : Option (Int32 × Sg) :=
  lt ((v1 * (12 : Int32)) + v2) (fun x1 => gin x1 144 (some ((sg 23 x1.toNatClampNeg), sg)))
set_option maxHeartbeats 4000000 in
set_option maxRecDepth 100000 in
theorem tX8_peckOf_0 (C : Cx p s m args meth c cX8_peckOf 3 RX8 wsX8_peckOf (some .int) D vwCl (tysC T) A true nwL) {ro : Int32} {so : Sg}   : ∀ (v1 : Int32) (v2 : Int32) (sg : Sg), ∀ (H : Heap) (locs : List Loc) (ls : Array Slot), WS ZC D vwCl T ad sg lg A s.heap H locs → lv_has ls 3 [(0, .ref (ad 3)), (1, .int v1), (2, .int v2)] → fX8_peckOf v1 v2 sg = some (ro, so) → W p l e rmX8_peckOf s m args below meth c H locs 0 0 (MQ below (QI ZC D vwCl T (tysC T) A (fun z => ad = z) ro so lg) args s 0 0 A) (F0 m 0 ls []) := by
  obtain ⟨⟨hx, hb, hml, hown, hts⟩, hr, hlk, hK, hA, hsp⟩ := id C
  intro v1 v2 sg H locs ls hw hl h
  unfold fX8_peckOf at h
  refine lv_aload_n hx hb dX8_peckOf_0 rfl (lv_at hl 0 rfl) ?_
  refine r_getR (ci := 8) (C := RX8) (U := TX8) (N := 10) hx hb hts kX8_peckOf_iX8 hown hK hw 3 (by decide) rfl rfl 9 (by decide) 23 rfl (hts _ kX8_peckOf_f34) (fun _ h9 => h9) dX8_peckOf_1 ?_
  refine lv_iload_n hx hb dX8_peckOf_4 rfl (lv_at hl 1 rfl) ?_
  refine lv_bipush (v := (12 : Int32)) hx hb dX8_peckOf_5 (by decide) ?_
  refine lv_imul hx hb dX8_peckOf_7 ?_
  refine lv_iload_n hx hb dX8_peckOf_8 rfl (lv_at hl 2 rfl) ?_
  refine lv_iadd hx hb dX8_peckOf_9 ?_
  refine lv_topi (fun x1 ex1 => ?_)
  replace h := lt_get h x1 ex1
  have hi2 := (gin_some h).1
  replace h := (gin_some h).2
  refine r_iald hx hb hK hw 23 0 144 (by decide) rfl rfl rfl hi2 dX8_peckOf_10 ?_
  cases h
  exact r_iret C hw rfl (by decide) (by decide) dX8_peckOf_11
theorem mX8_peckOf (l : Launch) (D : va_G) (T : Nat → ClassId) (ad : Nat → Nat) (lg : Lg) (sz : Nat)   (v1 : Int32) (v2 : Int32) (sg : Sg) {ro : Int32} {so : Sg} (h : fX8_peckOf v1 v2 sg = some (ro, so)) : Met l yX8_peckOf wsX8_peckOf rmX8_peckOf (PreZ ZC D vwCl T (tysC T) ad sg lg true nwL [.ref (ad 3), .int v1, .int v2] sz) (QI ZC D vwCl T (tysC T) (va_A (zwd ZC T ad sg lg) sz) (fun z => ad = z) ro so lg) 0 0 (va_A (zwd ZC T ad sg lg) sz) :=
  metZ [.ref (ad 3), .int v1, .int v2] sz (by decide) rfl (Nat.le_of_ble_eq_true rfl) (fun p e s m below meth c ls C hw hl => tX8_peckOf_0 C v1 v2 sg _ _ _ hw hl h)
-- PeckYard$Halves.spreadSum([IIII)V
def rmX4_spreadSum_c26 : Room := { frames := 0, cells := 0, slots := 0, locals := 0 }
def fX4_spreadSum_c26_8 (r8 : (Int32 × Int32 × Int32 × Int32 × Sg) → Option (Sg)) (v1 : Int32) (v3 : Int32) (v4 : Int32) (v5 : Int32) (sg : Sg) : Option (Sg) :=
  (if v4 ≤ v5 then some sg else lt (v1 + v5) (fun x2 => gin x2 768 (lt ((sg 26 x2.toNatClampNeg) + v3) (fun x4 => gin ((v1 + v4) + v5) 768 (lt (up2 sg 26 ((v1 + v4) + v5).toNatClampNeg x4) (fun sg6 => lt (v5 + (1 : Int32)) (fun x7 => r8 (v1, v3, v4, x7, sg6))))))))
set_option maxHeartbeats 4000000 in
set_option maxRecDepth 100000 in
theorem tX4_spreadSum_c26_8 (C : Cx p s m args meth c cX4_spreadSum 6 RX4 wsX4_spreadSum none D vwCl (tysC T) A true nwL) {so : Sg} {r8 : (Int32 × Int32 × Int32 × Int32 × Sg) → Option (Sg)} (hr8 : ∀ (v1 : Int32) (v3 : Int32) (v4 : Int32) (v5 : Int32) (sg : Sg), r8 (v1, v3, v4, v5, sg) = some so → ∀ (H : Heap) (locs : List Loc) (ls : Array Slot), WS ZC D vwCl T ad sg lg A s.heap H locs → lv_has ls 6 [(0, .ref (ad 26)), (1, .int v1), (3, .int v3), (4, .int v4), (5, .int v5)] → W p l e rmX4_spreadSum_c26 s m args below meth c H locs 0 0 (MQ below (QV ZC D vwCl T (tysC T) A (fun z => ad = z) so lg) args s 0 0 A) (F0 m 8 ls [])) : ∀ (v1 : Int32) (v3 : Int32) (v4 : Int32) (v5 : Int32) (sg : Sg), ∀ (H : Heap) (locs : List Loc) (ls : Array Slot), WS ZC D vwCl T ad sg lg A s.heap H locs → lv_has ls 6 [(0, .ref (ad 26)), (1, .int v1), (3, .int v3), (4, .int v4), (5, .int v5)] → fX4_spreadSum_c26_8 r8 v1 v3 v4 v5 sg = some so → W p l e rmX4_spreadSum_c26 s m args below meth c H locs 0 0 (MQ below (QV ZC D vwCl T (tysC T) A (fun z => ad = z) so lg) args s 0 0 A) (F0 m 8 ls []) := by
  obtain ⟨⟨hx, hb, hml, hown, hts⟩, hr, hlk, hK, hA, hsp⟩ := id C
  intro v1 v3 v4 v5 sg H locs ls hw hl h
  unfold fX4_spreadSum_c26_8 at h
  refine lv_iload hx hb dX4_spreadSum_8 (lv_at hl 4 rfl) ?_
  refine lv_iload hx hb dX4_spreadSum_10 (lv_at hl 3 rfl) ?_
  refine lv_icmp_ge (tgt := 38) hx hb dX4_spreadSum_12 (by decide) (fun c1 => ?_) (fun c1 => ?_)
  · replace h := ite_t h c1
    cases h
    exact r_vret C hw rfl (by decide) (by decide) dX4_spreadSum_38
  · replace h := ite_f h c1
    refine lv_aload_n hx hb dX4_spreadSum_15 rfl (lv_at hl 0 rfl) ?_
    refine lv_iload_n hx hb dX4_spreadSum_16 rfl (lv_at hl 1 rfl) ?_
    refine lv_iload hx hb dX4_spreadSum_17 (lv_at hl 3 rfl) ?_
    refine lv_iadd hx hb dX4_spreadSum_19 ?_
    refine lv_iload hx hb dX4_spreadSum_20 (lv_at hl 4 rfl) ?_
    refine lv_iadd hx hb dX4_spreadSum_22 ?_
    refine lv_aload_n hx hb dX4_spreadSum_23 rfl (lv_at hl 0 rfl) ?_
    refine lv_iload_n hx hb dX4_spreadSum_24 rfl (lv_at hl 1 rfl) ?_
    refine lv_iload hx hb dX4_spreadSum_25 (lv_at hl 4 rfl) ?_
    refine lv_iadd hx hb dX4_spreadSum_27 ?_
    refine lv_topi (fun x2 ex2 => ?_)
    replace h := lt_get h x2 ex2
    have hi3 := (gin_some h).1
    replace h := (gin_some h).2
    refine r_iald hx hb hK hw 26 0 768 (by decide) rfl rfl rfl hi3 dX4_spreadSum_28 ?_
    refine lv_iload_n hx hb dX4_spreadSum_29 rfl (lv_at hl 2 rfl) ?_
    refine lv_iadd hx hb dX4_spreadSum_30 ?_
    refine lv_topi (fun x4 ex4 => ?_)
    replace h := lt_get h x4 ex4
    have hi5 := (gin_some h).1
    replace h := (gin_some h).2
    refine r_iast ZC_ok hx hb hK hw 26 0 768 (by decide) rfl rfl rfl hi5 dX4_spreadSum_31 (fun H locs sg6 esg6 hw => ?_)
    replace h := lt_get h sg6 esg6
    obtain ⟨x7, ex7⟩ : ∃ z : Int32, z = (v5 + (1 : Int32)) := ⟨_, rfl⟩
    replace h := lt_get h x7 ex7
    refine lv_iinc (v := x7) (lv' := [(5, .int x7), (0, .ref (ad 26)), (1, .int v1), (3, .int v3), (4, .int v4)]) hx hb dX4_spreadSum_32 hl (k := 4) rfl (by rw [ex7]; rfl) (by decide) rfl (fun ls hl => ?_)
    refine lv_goto (tgt := 8) hx hb dX4_spreadSum_35 (by decide) ?_
    exact hr8 v1 v3 v4 x7 sg6 h _ _ _ hw (lv_sub hl [1, 2, 3, 4, 0] rfl)
def LX4_spreadSum_c26_8  : (Int32 × Int32 × Int32 × Int32 × Sg) → Option (Sg) := loop (fun rec z => fX4_spreadSum_c26_8 rec z.1 z.2.1 z.2.2.1 z.2.2.2.1 z.2.2.2.2)
theorem TX4_spreadSum_c26_8 (C : Cx p s m args meth c cX4_spreadSum 6 RX4 wsX4_spreadSum none D vwCl (tysC T) A true nwL) {so : Sg}   : ∀ (v1 : Int32) (v3 : Int32) (v4 : Int32) (v5 : Int32) (sg : Sg), LX4_spreadSum_c26_8 (v1, v3, v4, v5, sg) = some so → ∀ (H : Heap) (locs : List Loc) (ls : Array Slot), WS ZC D vwCl T ad sg lg A s.heap H locs → lv_has ls 6 [(0, .ref (ad 26)), (1, .int v1), (3, .int v3), (4, .int v4), (5, .int v5)] → W p l e rmX4_spreadSum_c26 s m args below meth c H locs 0 0 (MQ below (QV ZC D vwCl T (tysC T) A (fun z => ad = z) so lg) args s 0 0 A) (F0 m 8 ls []) := by
  have key : ∀ z : (Int32 × Int32 × Int32 × Int32 × Sg), LX4_spreadSum_c26_8  z = some so → ∀ (H : Heap) (locs : List Loc) (ls : Array Slot), WS ZC D vwCl T ad z.2.2.2.2 lg A s.heap H locs → lv_has ls 6 [(0, .ref (ad 26)), (1, .int z.1), (3, .int z.2.1), (4, .int z.2.2.1), (5, .int z.2.2.2.1)] → W p l e rmX4_spreadSum_c26 s m args below meth c H locs 0 0 (MQ below (QV ZC D vwCl T (tysC T) A (fun z => ad = z) so lg) args s 0 0 A) (F0 m 8 ls []) := by
    intro z h
    unfold LX4_spreadSum_c26_8 at h
    exact loop_ind (fun rec z => fX4_spreadSum_c26_8 rec z.1 z.2.1 z.2.2.1 z.2.2.2.1 z.2.2.2.2) (y := so) (P := fun z => ∀ (H : Heap) (locs : List Loc) (ls : Array Slot), WS ZC D vwCl T ad z.2.2.2.2 lg A s.heap H locs → lv_has ls 6 [(0, .ref (ad 26)), (1, .int z.1), (3, .int z.2.1), (4, .int z.2.2.1), (5, .int z.2.2.2.1)] → W p l e rmX4_spreadSum_c26 s m args below meth c H locs 0 0 (MQ below (QV ZC D vwCl T (tysC T) A (fun z => ad = z) so lg) args s 0 0 A) (F0 m 8 ls [])) (fun rec hrec z h H locs ls hw hl => tX4_spreadSum_c26_8 C  (fun v1 v3 v4 v5 sg => hrec (v1, v3, v4, v5, sg)) z.1 z.2.1 z.2.2.1 z.2.2.2.1 z.2.2.2.2 H locs ls hw hl h) z h
  exact fun v1 v3 v4 v5 sg => key (v1, v3, v4, v5, sg)
def fX4_spreadSum_c26  (v1 : Int32) (v2 : Int32) (v3 : Int32) (sg : Sg) : Option (Sg) :=
  lt ((1 : Int32) <<< (v2 &&& 31)) (fun x1 => LX4_spreadSum_c26_8 (v1, v3, x1, (0 : Int32), sg))
set_option maxHeartbeats 4000000 in
set_option maxRecDepth 100000 in
theorem tX4_spreadSum_c26_0 (C : Cx p s m args meth c cX4_spreadSum 6 RX4 wsX4_spreadSum none D vwCl (tysC T) A true nwL) {so : Sg}   : ∀ (v1 : Int32) (v2 : Int32) (v3 : Int32) (sg : Sg), ∀ (H : Heap) (locs : List Loc) (ls : Array Slot), WS ZC D vwCl T ad sg lg A s.heap H locs → lv_has ls 6 [(0, .ref (ad 26)), (1, .int v1), (2, .int v2), (3, .int v3)] → fX4_spreadSum_c26 v1 v2 v3 sg = some so → W p l e rmX4_spreadSum_c26 s m args below meth c H locs 0 0 (MQ below (QV ZC D vwCl T (tysC T) A (fun z => ad = z) so lg) args s 0 0 A) (F0 m 0 ls []) := by
  obtain ⟨⟨hx, hb, hml, hown, hts⟩, hr, hlk, hK, hA, hsp⟩ := id C
  intro v1 v2 v3 sg H locs ls hw hl h
  unfold fX4_spreadSum_c26 at h
  refine lv_iconst (v := (1 : Int32)) hx hb dX4_spreadSum_0 (by decide) ?_
  refine lv_iload_n hx hb dX4_spreadSum_1 rfl (lv_at hl 2 rfl) ?_
  refine lv_ishl hx hb dX4_spreadSum_2 ?_
  refine lv_topi (fun x1 ex1 => ?_)
  replace h := lt_get h x1 ex1
  refine lv_istore (lv' := [(4, .int x1), (0, .ref (ad 26)), (1, .int v1), (2, .int v2), (3, .int v3)]) hx hb dX4_spreadSum_3 hl (by decide) rfl (fun ls hl => ?_)
  refine lv_iconst (v := (0 : Int32)) hx hb dX4_spreadSum_5 (by decide) ?_
  refine lv_istore (lv' := [(5, .int (0 : Int32)), (4, .int x1), (0, .ref (ad 26)), (1, .int v1), (2, .int v2), (3, .int v3)]) hx hb dX4_spreadSum_6 hl (by decide) rfl (fun ls hl => ?_)
  exact TX4_spreadSum_c26_8 C v1 v3 x1 (0 : Int32) sg h _ _ _ hw (lv_sub hl [2, 3, 5, 1, 0] rfl)
theorem mX4_spreadSum_c26 (l : Launch) (D : va_G) (T : Nat → ClassId) (ad : Nat → Nat) (lg : Lg) (sz : Nat)   (v1 : Int32) (v2 : Int32) (v3 : Int32) (sg : Sg) {so : Sg} (h : fX4_spreadSum_c26 v1 v2 v3 sg = some so) : Met l yX4_spreadSum wsX4_spreadSum rmX4_spreadSum_c26 (PreZ ZC D vwCl T (tysC T) ad sg lg true nwL [.ref (ad 26), .int v1, .int v2, .int v3] sz) (QV ZC D vwCl T (tysC T) (va_A (zwd ZC T ad sg lg) sz) (fun z => ad = z) so lg) 0 0 (va_A (zwd ZC T ad sg lg) sz) :=
  metZ [.ref (ad 26), .int v1, .int v2, .int v3] sz (by decide) rfl (Nat.le_of_ble_eq_true rfl) (fun p e s m below meth c ls C hw hl => tX4_spreadSum_c26_0 C v1 v2 v3 sg _ _ _ hw hl h)
-- PeckYard$Halves.spreadSum([IIII)V
def rmX4_spreadSum_c25 : Room := { frames := 0, cells := 0, slots := 0, locals := 0 }
def fX4_spreadSum_c25_8 (r8 : (Int32 × Int32 × Int32 × Int32 × Sg) → Option (Sg)) (v1 : Int32) (v3 : Int32) (v4 : Int32) (v5 : Int32) (sg : Sg) : Option (Sg) :=
  (if v4 ≤ v5 then some sg else lt (v1 + v5) (fun x2 => gin x2 768 (lt ((sg 25 x2.toNatClampNeg) + v3) (fun x4 => gin ((v1 + v4) + v5) 768 (lt (up2 sg 25 ((v1 + v4) + v5).toNatClampNeg x4) (fun sg6 => lt (v5 + (1 : Int32)) (fun x7 => r8 (v1, v3, v4, x7, sg6))))))))
set_option maxHeartbeats 4000000 in
set_option maxRecDepth 100000 in
theorem tX4_spreadSum_c25_8 (C : Cx p s m args meth c cX4_spreadSum 6 RX4 wsX4_spreadSum none D vwCl (tysC T) A true nwL) {so : Sg} {r8 : (Int32 × Int32 × Int32 × Int32 × Sg) → Option (Sg)} (hr8 : ∀ (v1 : Int32) (v3 : Int32) (v4 : Int32) (v5 : Int32) (sg : Sg), r8 (v1, v3, v4, v5, sg) = some so → ∀ (H : Heap) (locs : List Loc) (ls : Array Slot), WS ZC D vwCl T ad sg lg A s.heap H locs → lv_has ls 6 [(0, .ref (ad 25)), (1, .int v1), (3, .int v3), (4, .int v4), (5, .int v5)] → W p l e rmX4_spreadSum_c25 s m args below meth c H locs 0 0 (MQ below (QV ZC D vwCl T (tysC T) A (fun z => ad = z) so lg) args s 0 0 A) (F0 m 8 ls [])) : ∀ (v1 : Int32) (v3 : Int32) (v4 : Int32) (v5 : Int32) (sg : Sg), ∀ (H : Heap) (locs : List Loc) (ls : Array Slot), WS ZC D vwCl T ad sg lg A s.heap H locs → lv_has ls 6 [(0, .ref (ad 25)), (1, .int v1), (3, .int v3), (4, .int v4), (5, .int v5)] → fX4_spreadSum_c25_8 r8 v1 v3 v4 v5 sg = some so → W p l e rmX4_spreadSum_c25 s m args below meth c H locs 0 0 (MQ below (QV ZC D vwCl T (tysC T) A (fun z => ad = z) so lg) args s 0 0 A) (F0 m 8 ls []) := by
  obtain ⟨⟨hx, hb, hml, hown, hts⟩, hr, hlk, hK, hA, hsp⟩ := id C
  intro v1 v3 v4 v5 sg H locs ls hw hl h
  unfold fX4_spreadSum_c25_8 at h
  refine lv_iload hx hb dX4_spreadSum_8 (lv_at hl 4 rfl) ?_
  refine lv_iload hx hb dX4_spreadSum_10 (lv_at hl 3 rfl) ?_
  refine lv_icmp_ge (tgt := 38) hx hb dX4_spreadSum_12 (by decide) (fun c1 => ?_) (fun c1 => ?_)
  · replace h := ite_t h c1
    cases h
    exact r_vret C hw rfl (by decide) (by decide) dX4_spreadSum_38
  · replace h := ite_f h c1
    refine lv_aload_n hx hb dX4_spreadSum_15 rfl (lv_at hl 0 rfl) ?_
    refine lv_iload_n hx hb dX4_spreadSum_16 rfl (lv_at hl 1 rfl) ?_
    refine lv_iload hx hb dX4_spreadSum_17 (lv_at hl 3 rfl) ?_
    refine lv_iadd hx hb dX4_spreadSum_19 ?_
    refine lv_iload hx hb dX4_spreadSum_20 (lv_at hl 4 rfl) ?_
    refine lv_iadd hx hb dX4_spreadSum_22 ?_
    refine lv_aload_n hx hb dX4_spreadSum_23 rfl (lv_at hl 0 rfl) ?_
    refine lv_iload_n hx hb dX4_spreadSum_24 rfl (lv_at hl 1 rfl) ?_
    refine lv_iload hx hb dX4_spreadSum_25 (lv_at hl 4 rfl) ?_
    refine lv_iadd hx hb dX4_spreadSum_27 ?_
    refine lv_topi (fun x2 ex2 => ?_)
    replace h := lt_get h x2 ex2
    have hi3 := (gin_some h).1
    replace h := (gin_some h).2
    refine r_iald hx hb hK hw 25 0 768 (by decide) rfl rfl rfl hi3 dX4_spreadSum_28 ?_
    refine lv_iload_n hx hb dX4_spreadSum_29 rfl (lv_at hl 2 rfl) ?_
    refine lv_iadd hx hb dX4_spreadSum_30 ?_
    refine lv_topi (fun x4 ex4 => ?_)
    replace h := lt_get h x4 ex4
    have hi5 := (gin_some h).1
    replace h := (gin_some h).2
    refine r_iast ZC_ok hx hb hK hw 25 0 768 (by decide) rfl rfl rfl hi5 dX4_spreadSum_31 (fun H locs sg6 esg6 hw => ?_)
    replace h := lt_get h sg6 esg6
    obtain ⟨x7, ex7⟩ : ∃ z : Int32, z = (v5 + (1 : Int32)) := ⟨_, rfl⟩
    replace h := lt_get h x7 ex7
    refine lv_iinc (v := x7) (lv' := [(5, .int x7), (0, .ref (ad 25)), (1, .int v1), (3, .int v3), (4, .int v4)]) hx hb dX4_spreadSum_32 hl (k := 4) rfl (by rw [ex7]; rfl) (by decide) rfl (fun ls hl => ?_)
    refine lv_goto (tgt := 8) hx hb dX4_spreadSum_35 (by decide) ?_
    exact hr8 v1 v3 v4 x7 sg6 h _ _ _ hw (lv_sub hl [1, 2, 3, 4, 0] rfl)
def LX4_spreadSum_c25_8  : (Int32 × Int32 × Int32 × Int32 × Sg) → Option (Sg) := loop (fun rec z => fX4_spreadSum_c25_8 rec z.1 z.2.1 z.2.2.1 z.2.2.2.1 z.2.2.2.2)
theorem TX4_spreadSum_c25_8 (C : Cx p s m args meth c cX4_spreadSum 6 RX4 wsX4_spreadSum none D vwCl (tysC T) A true nwL) {so : Sg}   : ∀ (v1 : Int32) (v3 : Int32) (v4 : Int32) (v5 : Int32) (sg : Sg), LX4_spreadSum_c25_8 (v1, v3, v4, v5, sg) = some so → ∀ (H : Heap) (locs : List Loc) (ls : Array Slot), WS ZC D vwCl T ad sg lg A s.heap H locs → lv_has ls 6 [(0, .ref (ad 25)), (1, .int v1), (3, .int v3), (4, .int v4), (5, .int v5)] → W p l e rmX4_spreadSum_c25 s m args below meth c H locs 0 0 (MQ below (QV ZC D vwCl T (tysC T) A (fun z => ad = z) so lg) args s 0 0 A) (F0 m 8 ls []) := by
  have key : ∀ z : (Int32 × Int32 × Int32 × Int32 × Sg), LX4_spreadSum_c25_8  z = some so → ∀ (H : Heap) (locs : List Loc) (ls : Array Slot), WS ZC D vwCl T ad z.2.2.2.2 lg A s.heap H locs → lv_has ls 6 [(0, .ref (ad 25)), (1, .int z.1), (3, .int z.2.1), (4, .int z.2.2.1), (5, .int z.2.2.2.1)] → W p l e rmX4_spreadSum_c25 s m args below meth c H locs 0 0 (MQ below (QV ZC D vwCl T (tysC T) A (fun z => ad = z) so lg) args s 0 0 A) (F0 m 8 ls []) := by
    intro z h
    unfold LX4_spreadSum_c25_8 at h
    exact loop_ind (fun rec z => fX4_spreadSum_c25_8 rec z.1 z.2.1 z.2.2.1 z.2.2.2.1 z.2.2.2.2) (y := so) (P := fun z => ∀ (H : Heap) (locs : List Loc) (ls : Array Slot), WS ZC D vwCl T ad z.2.2.2.2 lg A s.heap H locs → lv_has ls 6 [(0, .ref (ad 25)), (1, .int z.1), (3, .int z.2.1), (4, .int z.2.2.1), (5, .int z.2.2.2.1)] → W p l e rmX4_spreadSum_c25 s m args below meth c H locs 0 0 (MQ below (QV ZC D vwCl T (tysC T) A (fun z => ad = z) so lg) args s 0 0 A) (F0 m 8 ls [])) (fun rec hrec z h H locs ls hw hl => tX4_spreadSum_c25_8 C  (fun v1 v3 v4 v5 sg => hrec (v1, v3, v4, v5, sg)) z.1 z.2.1 z.2.2.1 z.2.2.2.1 z.2.2.2.2 H locs ls hw hl h) z h
  exact fun v1 v3 v4 v5 sg => key (v1, v3, v4, v5, sg)
def fX4_spreadSum_c25  (v1 : Int32) (v2 : Int32) (v3 : Int32) (sg : Sg) : Option (Sg) :=
  lt ((1 : Int32) <<< (v2 &&& 31)) (fun x1 => LX4_spreadSum_c25_8 (v1, v3, x1, (0 : Int32), sg))
set_option maxHeartbeats 4000000 in
set_option maxRecDepth 100000 in
theorem tX4_spreadSum_c25_0 (C : Cx p s m args meth c cX4_spreadSum 6 RX4 wsX4_spreadSum none D vwCl (tysC T) A true nwL) {so : Sg}   : ∀ (v1 : Int32) (v2 : Int32) (v3 : Int32) (sg : Sg), ∀ (H : Heap) (locs : List Loc) (ls : Array Slot), WS ZC D vwCl T ad sg lg A s.heap H locs → lv_has ls 6 [(0, .ref (ad 25)), (1, .int v1), (2, .int v2), (3, .int v3)] → fX4_spreadSum_c25 v1 v2 v3 sg = some so → W p l e rmX4_spreadSum_c25 s m args below meth c H locs 0 0 (MQ below (QV ZC D vwCl T (tysC T) A (fun z => ad = z) so lg) args s 0 0 A) (F0 m 0 ls []) := by
  obtain ⟨⟨hx, hb, hml, hown, hts⟩, hr, hlk, hK, hA, hsp⟩ := id C
  intro v1 v2 v3 sg H locs ls hw hl h
  unfold fX4_spreadSum_c25 at h
  refine lv_iconst (v := (1 : Int32)) hx hb dX4_spreadSum_0 (by decide) ?_
  refine lv_iload_n hx hb dX4_spreadSum_1 rfl (lv_at hl 2 rfl) ?_
  refine lv_ishl hx hb dX4_spreadSum_2 ?_
  refine lv_topi (fun x1 ex1 => ?_)
  replace h := lt_get h x1 ex1
  refine lv_istore (lv' := [(4, .int x1), (0, .ref (ad 25)), (1, .int v1), (2, .int v2), (3, .int v3)]) hx hb dX4_spreadSum_3 hl (by decide) rfl (fun ls hl => ?_)
  refine lv_iconst (v := (0 : Int32)) hx hb dX4_spreadSum_5 (by decide) ?_
  refine lv_istore (lv' := [(5, .int (0 : Int32)), (4, .int x1), (0, .ref (ad 25)), (1, .int v1), (2, .int v2), (3, .int v3)]) hx hb dX4_spreadSum_6 hl (by decide) rfl (fun ls hl => ?_)
  exact TX4_spreadSum_c25_8 C v1 v3 x1 (0 : Int32) sg h _ _ _ hw (lv_sub hl [2, 3, 5, 1, 0] rfl)
theorem mX4_spreadSum_c25 (l : Launch) (D : va_G) (T : Nat → ClassId) (ad : Nat → Nat) (lg : Lg) (sz : Nat)   (v1 : Int32) (v2 : Int32) (v3 : Int32) (sg : Sg) {so : Sg} (h : fX4_spreadSum_c25 v1 v2 v3 sg = some so) : Met l yX4_spreadSum wsX4_spreadSum rmX4_spreadSum_c25 (PreZ ZC D vwCl T (tysC T) ad sg lg true nwL [.ref (ad 25), .int v1, .int v2, .int v3] sz) (QV ZC D vwCl T (tysC T) (va_A (zwd ZC T ad sg lg) sz) (fun z => ad = z) so lg) 0 0 (va_A (zwd ZC T ad sg lg) sz) :=
  metZ [.ref (ad 25), .int v1, .int v2, .int v3] sz (by decide) rfl (Nat.le_of_ble_eq_true rfl) (fun p e s m below meth c ls C hw hl => tX4_spreadSum_c25_0 C v1 v2 v3 sg _ _ _ hw hl h)
-- PeckYard$Halves.spreadUnion([III)V
def rmX4_spreadUnion_c29 : Room := { frames := 0, cells := 0, slots := 0, locals := 0 }
def fX4_spreadUnion_c29_7 (r7 : (Int32 × Int32 × Int32 × Sg) → Option (Sg)) (v2 : Int32) (v3 : Int32) (v4 : Int32) (sg : Sg) : Option (Sg) :=
  (if v3 ≤ v4 then some sg else gin v4 64 (lt ((sg 29 v4.toNatClampNeg) ||| v2) (fun x3 => gin (v3 + v4) 64 (lt (up2 sg 29 (v3 + v4).toNatClampNeg x3) (fun sg5 => lt (v4 + (1 : Int32)) (fun x6 => r7 (v2, v3, x6, sg5)))))))
set_option maxHeartbeats 4000000 in
set_option maxRecDepth 100000 in
theorem tX4_spreadUnion_c29_7 (C : Cx p s m args meth c cX4_spreadUnion 5 RX4 wsX4_spreadUnion none D vwCl (tysC T) A true nwL) {so : Sg} {r7 : (Int32 × Int32 × Int32 × Sg) → Option (Sg)} (hr7 : ∀ (v2 : Int32) (v3 : Int32) (v4 : Int32) (sg : Sg), r7 (v2, v3, v4, sg) = some so → ∀ (H : Heap) (locs : List Loc) (ls : Array Slot), WS ZC D vwCl T ad sg lg A s.heap H locs → lv_has ls 5 [(0, .ref (ad 29)), (2, .int v2), (3, .int v3), (4, .int v4)] → W p l e rmX4_spreadUnion_c29 s m args below meth c H locs 0 0 (MQ below (QV ZC D vwCl T (tysC T) A (fun z => ad = z) so lg) args s 0 0 A) (F0 m 7 ls [])) : ∀ (v2 : Int32) (v3 : Int32) (v4 : Int32) (sg : Sg), ∀ (H : Heap) (locs : List Loc) (ls : Array Slot), WS ZC D vwCl T ad sg lg A s.heap H locs → lv_has ls 5 [(0, .ref (ad 29)), (2, .int v2), (3, .int v3), (4, .int v4)] → fX4_spreadUnion_c29_7 r7 v2 v3 v4 sg = some so → W p l e rmX4_spreadUnion_c29 s m args below meth c H locs 0 0 (MQ below (QV ZC D vwCl T (tysC T) A (fun z => ad = z) so lg) args s 0 0 A) (F0 m 7 ls []) := by
  obtain ⟨⟨hx, hb, hml, hown, hts⟩, hr, hlk, hK, hA, hsp⟩ := id C
  intro v2 v3 v4 sg H locs ls hw hl h
  unfold fX4_spreadUnion_c29_7 at h
  refine lv_iload hx hb dX4_spreadUnion_7 (lv_at hl 3 rfl) ?_
  refine lv_iload_n hx hb dX4_spreadUnion_9 rfl (lv_at hl 2 rfl) ?_
  refine lv_icmp_ge (tgt := 31) hx hb dX4_spreadUnion_10 (by decide) (fun c1 => ?_) (fun c1 => ?_)
  · replace h := ite_t h c1
    cases h
    exact r_vret C hw rfl (by decide) (by decide) dX4_spreadUnion_31
  · replace h := ite_f h c1
    refine lv_aload_n hx hb dX4_spreadUnion_13 rfl (lv_at hl 0 rfl) ?_
    refine lv_iload_n hx hb dX4_spreadUnion_14 rfl (lv_at hl 2 rfl) ?_
    refine lv_iload hx hb dX4_spreadUnion_15 (lv_at hl 3 rfl) ?_
    refine lv_iadd hx hb dX4_spreadUnion_17 ?_
    refine lv_aload_n hx hb dX4_spreadUnion_18 rfl (lv_at hl 0 rfl) ?_
    refine lv_iload hx hb dX4_spreadUnion_19 (lv_at hl 3 rfl) ?_
    have hi2 := (gin_some h).1
    replace h := (gin_some h).2
    refine r_iald hx hb hK hw 29 0 64 (by decide) rfl rfl rfl hi2 dX4_spreadUnion_21 ?_
    refine lv_iload_n hx hb dX4_spreadUnion_22 rfl (lv_at hl 1 rfl) ?_
    refine lv_ior hx hb dX4_spreadUnion_23 ?_
    refine lv_topi (fun x3 ex3 => ?_)
    replace h := lt_get h x3 ex3
    have hi4 := (gin_some h).1
    replace h := (gin_some h).2
    refine r_iast ZC_ok hx hb hK hw 29 0 64 (by decide) rfl rfl rfl hi4 dX4_spreadUnion_24 (fun H locs sg5 esg5 hw => ?_)
    replace h := lt_get h sg5 esg5
    obtain ⟨x6, ex6⟩ : ∃ z : Int32, z = (v4 + (1 : Int32)) := ⟨_, rfl⟩
    replace h := lt_get h x6 ex6
    refine lv_iinc (v := x6) (lv' := [(4, .int x6), (0, .ref (ad 29)), (2, .int v2), (3, .int v3)]) hx hb dX4_spreadUnion_25 hl (k := 3) rfl (by rw [ex6]; rfl) (by decide) rfl (fun ls hl => ?_)
    refine lv_goto (tgt := 7) hx hb dX4_spreadUnion_28 (by decide) ?_
    exact hr7 v2 v3 x6 sg5 h _ _ _ hw (lv_sub hl [1, 2, 3, 0] rfl)
def LX4_spreadUnion_c29_7  : (Int32 × Int32 × Int32 × Sg) → Option (Sg) := loop (fun rec z => fX4_spreadUnion_c29_7 rec z.1 z.2.1 z.2.2.1 z.2.2.2)
theorem TX4_spreadUnion_c29_7 (C : Cx p s m args meth c cX4_spreadUnion 5 RX4 wsX4_spreadUnion none D vwCl (tysC T) A true nwL) {so : Sg}   : ∀ (v2 : Int32) (v3 : Int32) (v4 : Int32) (sg : Sg), LX4_spreadUnion_c29_7 (v2, v3, v4, sg) = some so → ∀ (H : Heap) (locs : List Loc) (ls : Array Slot), WS ZC D vwCl T ad sg lg A s.heap H locs → lv_has ls 5 [(0, .ref (ad 29)), (2, .int v2), (3, .int v3), (4, .int v4)] → W p l e rmX4_spreadUnion_c29 s m args below meth c H locs 0 0 (MQ below (QV ZC D vwCl T (tysC T) A (fun z => ad = z) so lg) args s 0 0 A) (F0 m 7 ls []) := by
  have key : ∀ z : (Int32 × Int32 × Int32 × Sg), LX4_spreadUnion_c29_7  z = some so → ∀ (H : Heap) (locs : List Loc) (ls : Array Slot), WS ZC D vwCl T ad z.2.2.2 lg A s.heap H locs → lv_has ls 5 [(0, .ref (ad 29)), (2, .int z.1), (3, .int z.2.1), (4, .int z.2.2.1)] → W p l e rmX4_spreadUnion_c29 s m args below meth c H locs 0 0 (MQ below (QV ZC D vwCl T (tysC T) A (fun z => ad = z) so lg) args s 0 0 A) (F0 m 7 ls []) := by
    intro z h
    unfold LX4_spreadUnion_c29_7 at h
    exact loop_ind (fun rec z => fX4_spreadUnion_c29_7 rec z.1 z.2.1 z.2.2.1 z.2.2.2) (y := so) (P := fun z => ∀ (H : Heap) (locs : List Loc) (ls : Array Slot), WS ZC D vwCl T ad z.2.2.2 lg A s.heap H locs → lv_has ls 5 [(0, .ref (ad 29)), (2, .int z.1), (3, .int z.2.1), (4, .int z.2.2.1)] → W p l e rmX4_spreadUnion_c29 s m args below meth c H locs 0 0 (MQ below (QV ZC D vwCl T (tysC T) A (fun z => ad = z) so lg) args s 0 0 A) (F0 m 7 ls [])) (fun rec hrec z h H locs ls hw hl => tX4_spreadUnion_c29_7 C  (fun v2 v3 v4 sg => hrec (v2, v3, v4, sg)) z.1 z.2.1 z.2.2.1 z.2.2.2 H locs ls hw hl h) z h
  exact fun v2 v3 v4 sg => key (v2, v3, v4, sg)
def fX4_spreadUnion_c29  (v1 : Int32) (v2 : Int32) (sg : Sg) : Option (Sg) :=
  lt ((1 : Int32) <<< (v1 &&& 31)) (fun x1 => LX4_spreadUnion_c29_7 (v2, x1, (0 : Int32), sg))
set_option maxHeartbeats 4000000 in
set_option maxRecDepth 100000 in
theorem tX4_spreadUnion_c29_0 (C : Cx p s m args meth c cX4_spreadUnion 5 RX4 wsX4_spreadUnion none D vwCl (tysC T) A true nwL) {so : Sg}   : ∀ (v1 : Int32) (v2 : Int32) (sg : Sg), ∀ (H : Heap) (locs : List Loc) (ls : Array Slot), WS ZC D vwCl T ad sg lg A s.heap H locs → lv_has ls 5 [(0, .ref (ad 29)), (1, .int v1), (2, .int v2)] → fX4_spreadUnion_c29 v1 v2 sg = some so → W p l e rmX4_spreadUnion_c29 s m args below meth c H locs 0 0 (MQ below (QV ZC D vwCl T (tysC T) A (fun z => ad = z) so lg) args s 0 0 A) (F0 m 0 ls []) := by
  obtain ⟨⟨hx, hb, hml, hown, hts⟩, hr, hlk, hK, hA, hsp⟩ := id C
  intro v1 v2 sg H locs ls hw hl h
  unfold fX4_spreadUnion_c29 at h
  refine lv_iconst (v := (1 : Int32)) hx hb dX4_spreadUnion_0 (by decide) ?_
  refine lv_iload_n hx hb dX4_spreadUnion_1 rfl (lv_at hl 1 rfl) ?_
  refine lv_ishl hx hb dX4_spreadUnion_2 ?_
  refine lv_topi (fun x1 ex1 => ?_)
  replace h := lt_get h x1 ex1
  refine lv_istore_n (lv' := [(3, .int x1), (0, .ref (ad 29)), (1, .int v1), (2, .int v2)]) hx hb dX4_spreadUnion_3 rfl hl (by decide) rfl (fun ls hl => ?_)
  refine lv_iconst (v := (0 : Int32)) hx hb dX4_spreadUnion_4 (by decide) ?_
  refine lv_istore (lv' := [(4, .int (0 : Int32)), (3, .int x1), (0, .ref (ad 29)), (1, .int v1), (2, .int v2)]) hx hb dX4_spreadUnion_5 hl (by decide) rfl (fun ls hl => ?_)
  exact TX4_spreadUnion_c29_7 C v2 x1 (0 : Int32) sg h _ _ _ hw (lv_sub hl [2, 4, 1, 0] rfl)
theorem mX4_spreadUnion_c29 (l : Launch) (D : va_G) (T : Nat → ClassId) (ad : Nat → Nat) (lg : Lg) (sz : Nat)   (v1 : Int32) (v2 : Int32) (sg : Sg) {so : Sg} (h : fX4_spreadUnion_c29 v1 v2 sg = some so) : Met l yX4_spreadUnion wsX4_spreadUnion rmX4_spreadUnion_c29 (PreZ ZC D vwCl T (tysC T) ad sg lg true nwL [.ref (ad 29), .int v1, .int v2] sz) (QV ZC D vwCl T (tysC T) (va_A (zwd ZC T ad sg lg) sz) (fun z => ad = z) so lg) 0 0 (va_A (zwd ZC T ad sg lg) sz) :=
  metZ [.ref (ad 29), .int v1, .int v2] sz (by decide) rfl (Nat.le_of_ble_eq_true rfl) (fun p e s m below meth c ls C hw hl => tX4_spreadUnion_c29_0 C v1 v2 sg _ _ _ hw hl h)
end ZC
