section ZC
variable {p : Program} {l : Launch} {e : Env} {s : State} {m : MethodId} {args : Array Value} {below : List Frame} {meth : Method} {c : Code} {D : va_G} {T : Nat → ClassId} {A : Nat → Prop} {ad a : Nat → Nat} {lg : Lg}
-- PeckYard$Orders.looseWeight()J
def rmX9_looseWeight : Room := { frames := 4, cells := 1, slots := 4096, locals := 88 }
theorem kX9_looseWeight_f47 : Cond.fieldLink RX9 47 "PeckYard$Orders" "halves" "LPeckYard$Halves;" ∈ wsX9_looseWeight := by decide +kernel
theorem kX9_looseWeight_iX9 : ∀ w ∈ u_ws RX9 TX9 11, w ∈ wsX9_looseWeight := by decide +kernel
theorem kX9_looseWeight_f18 : Cond.fieldLink RX9 18 "PeckYard$Orders" "loosenedAt" "I" ∈ wsX9_looseWeight := by decide +kernel
theorem kX9_looseWeight_f38 : Cond.fieldLink RX9 38 "PeckYard$Orders" "muster" "LPeckYard$Muster;" ∈ wsX9_looseWeight := by decide +kernel
theorem kX9_looseWeight_f54 : Cond.fieldLink RX9 54 "PeckYard$Muster" "stamp" "I" ∈ wsX9_looseWeight := by decide +kernel
theorem kX9_looseWeight_iX8 : ∀ w ∈ u_ws RX8 TX8 10, w ∈ wsX9_looseWeight := by decide +kernel
theorem kX9_looseWeight_f120 : Cond.fieldLink RX9 120 "PeckYard$Orders" "looseLeast" "I" ∈ wsX9_looseWeight := by decide +kernel
def fX9_looseWeight  (sg : Sg) : Option (Int64 × Sg) :=
  bnd1 (fX4_prepare sg) (fun sg1 => (if (sg1 4 4) = (sg1 3 1) then some ((sg1 4 5).toInt64, sg1) else lt (sg1 3 1) (fun x4 => lt (up2 sg1 4 4 x4) (fun sg5 => bnd1 (fX9_loosen sg5) (fun sg6 => some ((sg6 4 5).toInt64, sg6))))))
set_option maxHeartbeats 4000000 in
set_option maxRecDepth 100000 in
theorem tX9_looseWeight_0 (C : Cx p s m args meth c cX9_looseWeight 1 RX9 wsX9_looseWeight (some .long) D vwCl (tysC T) A true nwL) {ro : Int64} {so : Sg}   : ∀ (sg : Sg), ∀ (g : Nat → Nat) (H : Heap) (locs : List Loc) (ls : Array Slot), WS ZC D vwCl T (adr a g) sg lg A s.heap H locs → lv_has ls 1 [(0, .ref ((adr a g) 4))] → fX9_looseWeight sg = some (ro, so) → W p l e rmX9_looseWeight s m args below meth c H locs 0 0 (MQ below (QL ZC D vwCl T (tysC T) A (fun z => ∃ g' : Nat → Nat, z = adr a g') ro so lg) args s 1 4096 A) (F0 m 0 ls []) := by
  obtain ⟨⟨hx, hb, hml, hown, hts⟩, hr, hlk, hK, hA, hsp⟩ := id C
  intro sg g H locs ls hw hl h
  unfold fX9_looseWeight at h
  refine lv_aload_n hx hb dX9_looseWeight_0 rfl (lv_at hl 0 rfl) ?_
  refine r_getR (ci := 9) (C := RX9) (U := TX9) (N := 11) hx hb hts kX9_looseWeight_iX9 hown hK hw 4 (by decide) rfl rfl 1 (by decide) 10 rfl (hts _ kX9_looseWeight_f47) (fun _ h9 => h9) dX9_looseWeight_1 ?_
  obtain ⟨sg1, hq2, h2⟩ := bnd1_some h
  replace h := h2
  clear h2
  refine r_cVv (As := []) (rest := []) C hw 10 (by decide) (ci := 4) rfl rfl (mX4_prepare l D T (adr a g) lg H.size sg hq2) (cwV 0 hts gX9_looseWeight_X4_prepare rfl rfl rfl (by decide +kernel) ⟨Nat.le_of_ble_eq_true rfl, Nat.le_of_ble_eq_true rfl⟩) rfl hl.1 rfl (Nat.le_of_ble_eq_true rfl) dX9_looseWeight_4 ⟨Nat.le_of_ble_eq_true rfl, Nat.le_of_ble_eq_true rfl⟩ (fun ad' H locs hp hw => ?_)
  subst hp
  refine W.widen (k := 0) (n := 0) (by decide) (by decide) ?_
  refine lv_aload_n hx hb dX9_looseWeight_7 rfl (lv_at hl 0 rfl) ?_
  refine r_getI (ci := 9) (C := RX9) (U := TX9) (N := 11) hx hb hts kX9_looseWeight_iX9 hown hK hw 4 (by decide) rfl rfl 4 (by decide) rfl (hts _ kX9_looseWeight_f18) (fun _ h9 => h9) dX9_looseWeight_8 ?_
  refine lv_aload_n hx hb dX9_looseWeight_11 rfl (lv_at hl 0 rfl) ?_
  refine r_getR (ci := 9) (C := RX9) (U := TX9) (N := 11) hx hb hts kX9_looseWeight_iX9 hown hK hw 4 (by decide) rfl rfl 0 (by decide) 3 rfl (hts _ kX9_looseWeight_f38) (fun _ h9 => h9) dX9_looseWeight_12 ?_
  refine r_getI (ci := 8) (C := RX8) (U := TX8) (N := 10) hx hb hts kX9_looseWeight_iX8 hown hK hw 3 (by decide) rfl rfl 1 (by decide) rfl (hts _ kX9_looseWeight_f54) (fun _ h9 => h9) dX9_looseWeight_15 ?_
  refine lv_icmp_eq (tgt := 36) hx hb dX9_looseWeight_18 (by decide) (fun c3 => ?_) (fun c3 => ?_)
  · replace h := ite_t h c3
    refine lv_aload_n hx hb dX9_looseWeight_36 rfl (lv_at hl 0 rfl) ?_
    refine r_getI (ci := 9) (C := RX9) (U := TX9) (N := 11) hx hb hts kX9_looseWeight_iX9 hown hK hw 4 (by decide) rfl rfl 5 (by decide) rfl (hts _ kX9_looseWeight_f120) (fun _ h9 => h9) dX9_looseWeight_37 ?_
    refine lv_i2l (v := (sg1 4 5).toInt64) hx hb dX9_looseWeight_40 rfl ?_
    cases h
    exact r_lret C hw ⟨_, rfl⟩ (by decide) (by decide) dX9_looseWeight_41
  · replace h := ite_f h c3
    refine lv_aload_n hx hb dX9_looseWeight_21 rfl (lv_at hl 0 rfl) ?_
    refine lv_aload_n hx hb dX9_looseWeight_22 rfl (lv_at hl 0 rfl) ?_
    refine r_getR (ci := 9) (C := RX9) (U := TX9) (N := 11) hx hb hts kX9_looseWeight_iX9 hown hK hw 4 (by decide) rfl rfl 0 (by decide) 3 rfl (hts _ kX9_looseWeight_f38) (fun _ h9 => h9) dX9_looseWeight_23 ?_
    refine r_getI (ci := 8) (C := RX8) (U := TX8) (N := 10) hx hb hts kX9_looseWeight_iX8 hown hK hw 3 (by decide) rfl rfl 1 (by decide) rfl (hts _ kX9_looseWeight_f54) (fun _ h9 => h9) dX9_looseWeight_26 ?_
    refine lv_topi (fun x4 ex4 => ?_)
    replace h := lt_get h x4 ex4
    refine r_putI ZC_ok (ci := 9) (C := RX9) (U := TX9) (N := 11) (ty := .int) hx hb hts kX9_looseWeight_iX9 tyX9 tyX9_ok nmX9 hown hK hw 4 (by decide) rfl rfl 4 (by decide) rfl (hts _ kX9_looseWeight_f18) (fun _ h9 => h9) rfl (by decide +kernel) rfl rfl dX9_looseWeight_29 (fun H locs sg5 esg5 hw => ?_)
    replace h := lt_get h sg5 esg5
    refine lv_aload_n hx hb dX9_looseWeight_32 rfl (lv_at hl 0 rfl) ?_
    obtain ⟨sg6, hq7, h2⟩ := bnd1_some h
    replace h := h2
    clear h2
    refine r_cVv (As := []) (rest := []) C hw 4 (by decide) (ci := 9) rfl rfl (mX9_loosen l D T a g lg H.size sg5 hq7) (cwV 0 hts gX9_looseWeight_X9_loosen rfl rfl rfl (by decide +kernel) ⟨Nat.le_of_ble_eq_true rfl, Nat.le_of_ble_eq_true rfl⟩) rfl hl.1 rfl (Nat.le_of_ble_eq_true rfl) dX9_looseWeight_33 ⟨Nat.le_of_ble_eq_true rfl, Nat.le_of_ble_eq_true rfl⟩ (fun ad' H locs hp hw => ?_)
    obtain ⟨g8, rfl⟩ := hp
    refine W.widen (k := 1) (n := 4096) (by decide) (by decide) ?_
    refine lv_aload_n hx hb dX9_looseWeight_36 rfl (lv_at hl 0 rfl) ?_
    refine r_getI (ci := 9) (C := RX9) (U := TX9) (N := 11) hx hb hts kX9_looseWeight_iX9 hown hK hw 4 (by decide) rfl rfl 5 (by decide) rfl (hts _ kX9_looseWeight_f120) (fun _ h9 => h9) dX9_looseWeight_37 ?_
    refine lv_i2l (v := (sg6 4 5).toInt64) hx hb dX9_looseWeight_40 rfl ?_
    cases h
    exact r_lret C hw ⟨_, rfl⟩ (by decide) (by decide) dX9_looseWeight_41
theorem mX9_looseWeight (l : Launch) (D : va_G) (T : Nat → ClassId) (a g : Nat → Nat) (lg : Lg) (sz : Nat)   (sg : Sg) {ro : Int64} {so : Sg} (h : fX9_looseWeight sg = some (ro, so)) : Met l yX9_looseWeight wsX9_looseWeight rmX9_looseWeight (PreZ ZC D vwCl T (tysC T) (adr a g) sg lg true nwL [.ref ((adr a g) 4)] sz) (QL ZC D vwCl T (tysC T) (va_A (zwd ZC T (adr a g) sg lg) sz) (fun z => ∃ g' : Nat → Nat, z = adr a g') ro so lg) 1 4096 (va_A (zwd ZC T (adr a g) sg lg) sz) :=
  metZ [.ref ((adr a g) 4)] sz (by decide) rfl (Nat.le_of_ble_eq_true rfl) (fun p e s m below meth c ls C hw hl => tX9_looseWeight_0 C sg g _ _ _ hw hl h)
-- PeckYard.loose()J
def rmX11_loose : Room := { frames := 5, cells := 1, slots := 4096, locals := 108 }
theorem kX11_loose_f37 : Cond.fieldLink RX11 37 "PeckYard" "orders" "LPeckYard$Orders;" ∈ wsX11_loose := by decide +kernel
theorem kX11_loose_iX11 : ∀ w ∈ u_ws RX11 TX11 9, w ∈ wsX11_loose := by decide +kernel
def fX11_loose  (sg : Sg) : Option (Int64 × Sg) :=
  bnd2 (fX9_looseWeight sg) (fun y1 sg2 => some (y1, sg2))
set_option maxHeartbeats 4000000 in
set_option maxRecDepth 100000 in
theorem tX11_loose_0 (C : Cx p s m args meth c cX11_loose 1 RX11 wsX11_loose (some .long) D vwCl (tysC T) A true nwL) {ro : Int64} {so : Sg}   : ∀ (sg : Sg), ∀ (g : Nat → Nat) (H : Heap) (locs : List Loc) (ls : Array Slot), WS ZC D vwCl T (adr a g) sg lg A s.heap H locs → lv_has ls 1 [(0, .ref ((adr a g) 0))] → fX11_loose sg = some (ro, so) → W p l e rmX11_loose s m args below meth c H locs 0 0 (MQ below (QL ZC D vwCl T (tysC T) A (fun z => ∃ g' : Nat → Nat, z = adr a g') ro so lg) args s 1 4096 A) (F0 m 0 ls []) := by
  obtain ⟨⟨hx, hb, hml, hown, hts⟩, hr, hlk, hK, hA, hsp⟩ := id C
  intro sg g H locs ls hw hl h
  unfold fX11_loose at h
  refine lv_aload_n hx hb dX11_loose_0 rfl (lv_at hl 0 rfl) ?_
  refine r_getR (ci := 11) (C := RX11) (U := TX11) (N := 9) hx hb hts kX11_loose_iX11 hown hK hw 0 (by decide) rfl rfl 3 (by decide) 4 rfl (hts _ kX11_loose_f37) (fun _ h9 => h9) dX11_loose_1 ?_
  obtain ⟨y1, sg2, hq3, h2⟩ := bnd2_some h
  replace h := h2
  clear h2
  refine r_cVl (As := []) (rest := []) C hw 4 (by decide) (ci := 9) rfl rfl (mX9_looseWeight l D T a g lg H.size sg hq3) (cwV 0 hts gX11_loose_X9_looseWeight rfl rfl rfl (by decide +kernel) ⟨Nat.le_of_ble_eq_true rfl, Nat.le_of_ble_eq_true rfl⟩) rfl hl.1 rfl (Nat.le_of_ble_eq_true rfl) dX11_loose_4 ⟨Nat.le_of_ble_eq_true rfl, Nat.le_of_ble_eq_true rfl⟩ (fun ad' H locs hp hw => ?_)
  obtain ⟨g4, rfl⟩ := hp
  refine W.widen (k := 1) (n := 4096) (by decide) (by decide) ?_
  cases h
  exact r_lret C hw ⟨_, rfl⟩ (by decide) (by decide) dX11_loose_7
theorem mX11_loose (l : Launch) (D : va_G) (T : Nat → ClassId) (a g : Nat → Nat) (lg : Lg) (sz : Nat)   (sg : Sg) {ro : Int64} {so : Sg} (h : fX11_loose sg = some (ro, so)) : Met l yX11_loose wsX11_loose rmX11_loose (PreZ ZC D vwCl T (tysC T) (adr a g) sg lg true nwL [.ref ((adr a g) 0)] sz) (QL ZC D vwCl T (tysC T) (va_A (zwd ZC T (adr a g) sg lg) sz) (fun z => ∃ g' : Nat → Nat, z = adr a g') ro so lg) 1 4096 (va_A (zwd ZC T (adr a g) sg lg) sz) :=
  metZ [.ref ((adr a g) 0)] sz (by decide) rfl (Nat.le_of_ble_eq_true rfl) (fun p e s m below meth c ls C hw hl => tX11_loose_0 C sg g _ _ _ hw hl h)
-- java/util/Arrays.fill([II)V
def rmJ7_fill_53178_c41 : Room := { frames := 0, cells := 0, slots := 0, locals := 0 }
def fJ7_fill_53178_c41_5 (r5 : (Int32 × Int32 × Int32 × Sg) → Option (Sg)) (v1 : Int32) (v2 : Int32) (v3 : Int32) (sg : Sg) : Option (Sg) :=
  (if v3 ≤ v2 then some sg else gin v2 12 (lt (up2 sg 41 v2.toNatClampNeg v1) (fun sg3 => lt (v2 + (1 : Int32)) (fun x4 => r5 (v1, x4, v3, sg3)))))
set_option maxHeartbeats 4000000 in
set_option maxRecDepth 100000 in
theorem tJ7_fill_53178_c41_5 (C : Cx p s m args meth c cJ7_fill_53178 4 RJ7 wsJ7_fill_53178 none D vwCl (tysC T) A true nwL) {so : Sg} {r5 : (Int32 × Int32 × Int32 × Sg) → Option (Sg)} (hr5 : ∀ (v1 : Int32) (v2 : Int32) (v3 : Int32) (sg : Sg), r5 (v1, v2, v3, sg) = some so → ∀ (H : Heap) (locs : List Loc) (ls : Array Slot), WS ZC D vwCl T ad sg lg A s.heap H locs → lv_has ls 4 [(0, .ref (ad 41)), (1, .int v1), (2, .int v2), (3, .int v3)] → W p l e rmJ7_fill_53178_c41 s m args below meth c H locs 0 0 (MQ below (QV ZC D vwCl T (tysC T) A (fun z => ad = z) so lg) args s 0 0 A) (F0 m 5 ls [])) : ∀ (v1 : Int32) (v2 : Int32) (v3 : Int32) (sg : Sg), ∀ (H : Heap) (locs : List Loc) (ls : Array Slot), WS ZC D vwCl T ad sg lg A s.heap H locs → lv_has ls 4 [(0, .ref (ad 41)), (1, .int v1), (2, .int v2), (3, .int v3)] → fJ7_fill_53178_c41_5 r5 v1 v2 v3 sg = some so → W p l e rmJ7_fill_53178_c41 s m args below meth c H locs 0 0 (MQ below (QV ZC D vwCl T (tysC T) A (fun z => ad = z) so lg) args s 0 0 A) (F0 m 5 ls []) := by
  obtain ⟨⟨hx, hb, hml, hown, hts⟩, hr, hlk, hK, hA, hsp⟩ := id C
  intro v1 v2 v3 sg H locs ls hw hl h
  unfold fJ7_fill_53178_c41_5 at h
  refine lv_iload_n hx hb dJ7_fill_53178_5 rfl (lv_at hl 2 rfl) ?_
  refine lv_iload_n hx hb dJ7_fill_53178_6 rfl (lv_at hl 3 rfl) ?_
  refine lv_icmp_ge (tgt := 20) hx hb dJ7_fill_53178_7 (by decide) (fun c1 => ?_) (fun c1 => ?_)
  · replace h := ite_t h c1
    cases h
    exact r_vret C hw rfl (by decide) (by decide) dJ7_fill_53178_20
  · replace h := ite_f h c1
    refine lv_aload_n hx hb dJ7_fill_53178_10 rfl (lv_at hl 0 rfl) ?_
    refine lv_iload_n hx hb dJ7_fill_53178_11 rfl (lv_at hl 2 rfl) ?_
    refine lv_iload_n hx hb dJ7_fill_53178_12 rfl (lv_at hl 1 rfl) ?_
    have hi2 := (gin_some h).1
    replace h := (gin_some h).2
    refine r_iast ZC_ok hx hb hK hw 41 0 12 (by decide) rfl rfl rfl hi2 dJ7_fill_53178_13 (fun H locs sg3 esg3 hw => ?_)
    replace h := lt_get h sg3 esg3
    obtain ⟨x4, ex4⟩ : ∃ z : Int32, z = (v2 + (1 : Int32)) := ⟨_, rfl⟩
    replace h := lt_get h x4 ex4
    refine lv_iinc (v := x4) (lv' := [(2, .int x4), (0, .ref (ad 41)), (1, .int v1), (3, .int v3)]) hx hb dJ7_fill_53178_14 hl (k := 2) rfl (by rw [ex4]; rfl) (by decide) rfl (fun ls hl => ?_)
    refine lv_goto (tgt := 5) hx hb dJ7_fill_53178_17 (by decide) ?_
    exact hr5 v1 x4 v3 sg3 h _ _ _ hw (lv_sub hl [1, 2, 0, 3] rfl)
def LJ7_fill_53178_c41_5  : (Int32 × Int32 × Int32 × Sg) → Option (Sg) := loop (fun rec z => fJ7_fill_53178_c41_5 rec z.1 z.2.1 z.2.2.1 z.2.2.2)
theorem TJ7_fill_53178_c41_5 (C : Cx p s m args meth c cJ7_fill_53178 4 RJ7 wsJ7_fill_53178 none D vwCl (tysC T) A true nwL) {so : Sg}   : ∀ (v1 : Int32) (v2 : Int32) (v3 : Int32) (sg : Sg), LJ7_fill_53178_c41_5 (v1, v2, v3, sg) = some so → ∀ (H : Heap) (locs : List Loc) (ls : Array Slot), WS ZC D vwCl T ad sg lg A s.heap H locs → lv_has ls 4 [(0, .ref (ad 41)), (1, .int v1), (2, .int v2), (3, .int v3)] → W p l e rmJ7_fill_53178_c41 s m args below meth c H locs 0 0 (MQ below (QV ZC D vwCl T (tysC T) A (fun z => ad = z) so lg) args s 0 0 A) (F0 m 5 ls []) := by
  have key : ∀ z : (Int32 × Int32 × Int32 × Sg), LJ7_fill_53178_c41_5  z = some so → ∀ (H : Heap) (locs : List Loc) (ls : Array Slot), WS ZC D vwCl T ad z.2.2.2 lg A s.heap H locs → lv_has ls 4 [(0, .ref (ad 41)), (1, .int z.1), (2, .int z.2.1), (3, .int z.2.2.1)] → W p l e rmJ7_fill_53178_c41 s m args below meth c H locs 0 0 (MQ below (QV ZC D vwCl T (tysC T) A (fun z => ad = z) so lg) args s 0 0 A) (F0 m 5 ls []) := by
    intro z h
    unfold LJ7_fill_53178_c41_5 at h
    exact loop_ind (fun rec z => fJ7_fill_53178_c41_5 rec z.1 z.2.1 z.2.2.1 z.2.2.2) (y := so) (P := fun z => ∀ (H : Heap) (locs : List Loc) (ls : Array Slot), WS ZC D vwCl T ad z.2.2.2 lg A s.heap H locs → lv_has ls 4 [(0, .ref (ad 41)), (1, .int z.1), (2, .int z.2.1), (3, .int z.2.2.1)] → W p l e rmJ7_fill_53178_c41 s m args below meth c H locs 0 0 (MQ below (QV ZC D vwCl T (tysC T) A (fun z => ad = z) so lg) args s 0 0 A) (F0 m 5 ls [])) (fun rec hrec z h H locs ls hw hl => tJ7_fill_53178_c41_5 C  (fun v1 v2 v3 sg => hrec (v1, v2, v3, sg)) z.1 z.2.1 z.2.2.1 z.2.2.2 H locs ls hw hl h) z h
  exact fun v1 v2 v3 sg => key (v1, v2, v3, sg)
def fJ7_fill_53178_c41  (v1 : Int32) (sg : Sg) : Option (Sg) :=
  LJ7_fill_53178_c41_5 (v1, (0 : Int32), (12 : Int32), sg)
set_option maxHeartbeats 4000000 in
set_option maxRecDepth 100000 in
theorem tJ7_fill_53178_c41_0 (C : Cx p s m args meth c cJ7_fill_53178 4 RJ7 wsJ7_fill_53178 none D vwCl (tysC T) A true nwL) {so : Sg}   : ∀ (v1 : Int32) (sg : Sg), ∀ (H : Heap) (locs : List Loc) (ls : Array Slot), WS ZC D vwCl T ad sg lg A s.heap H locs → lv_has ls 4 [(0, .ref (ad 41)), (1, .int v1)] → fJ7_fill_53178_c41 v1 sg = some so → W p l e rmJ7_fill_53178_c41 s m args below meth c H locs 0 0 (MQ below (QV ZC D vwCl T (tysC T) A (fun z => ad = z) so lg) args s 0 0 A) (F0 m 0 ls []) := by
  obtain ⟨⟨hx, hb, hml, hown, hts⟩, hr, hlk, hK, hA, hsp⟩ := id C
  intro v1 sg H locs ls hw hl h
  unfold fJ7_fill_53178_c41 at h
  refine lv_iconst (v := (0 : Int32)) hx hb dJ7_fill_53178_0 (by decide) ?_
  refine lv_istore_n (lv' := [(2, .int (0 : Int32)), (0, .ref (ad 41)), (1, .int v1)]) hx hb dJ7_fill_53178_1 rfl hl (by decide) rfl (fun ls hl => ?_)
  refine lv_aload_n hx hb dJ7_fill_53178_2 rfl (lv_at hl 1 rfl) ?_
  refine r_alen hx hb hK hw 41 0 12 (by decide) 0 rfl (by decide) rfl rfl (v := (12 : Int32)) rfl dJ7_fill_53178_3 ?_
  refine lv_istore_n (lv' := [(3, .int (12 : Int32)), (2, .int (0 : Int32)), (0, .ref (ad 41)), (1, .int v1)]) hx hb dJ7_fill_53178_4 rfl hl (by decide) rfl (fun ls hl => ?_)
  exact TJ7_fill_53178_c41_5 C v1 (0 : Int32) (12 : Int32) sg h _ _ _ hw (lv_sub hl [2, 3, 1, 0] rfl)
theorem mJ7_fill_53178_c41 (l : Launch) (D : va_G) (T : Nat → ClassId) (ad : Nat → Nat) (lg : Lg) (sz : Nat)   (v1 : Int32) (sg : Sg) {so : Sg} (h : fJ7_fill_53178_c41 v1 sg = some so) : Met l yJ7_fill_53178 wsJ7_fill_53178 rmJ7_fill_53178_c41 (PreZ ZC D vwCl T (tysC T) ad sg lg true nwL [.ref (ad 41), .int v1] sz) (QV ZC D vwCl T (tysC T) (va_A (zwd ZC T ad sg lg) sz) (fun z => ad = z) so lg) 0 0 (va_A (zwd ZC T ad sg lg) sz) :=
  metZ [.ref (ad 41), .int v1] sz (by decide) rfl (Nat.le_of_ble_eq_true rfl) (fun p e s m below meth c ls C hw hl => tJ7_fill_53178_c41_0 C v1 sg _ _ _ hw hl h)
-- java/util/Arrays.fill([II)V
def rmJ7_fill_53178_c42 : Room := { frames := 0, cells := 0, slots := 0, locals := 0 }
def fJ7_fill_53178_c42_5 (r5 : (Int32 × Int32 × Int32 × Sg) → Option (Sg)) (v1 : Int32) (v2 : Int32) (v3 : Int32) (sg : Sg) : Option (Sg) :=
  (if v3 ≤ v2 then some sg else gin v2 12 (lt (up2 sg 42 v2.toNatClampNeg v1) (fun sg3 => lt (v2 + (1 : Int32)) (fun x4 => r5 (v1, x4, v3, sg3)))))
set_option maxHeartbeats 4000000 in
set_option maxRecDepth 100000 in
theorem tJ7_fill_53178_c42_5 (C : Cx p s m args meth c cJ7_fill_53178 4 RJ7 wsJ7_fill_53178 none D vwCl (tysC T) A true nwL) {so : Sg} {r5 : (Int32 × Int32 × Int32 × Sg) → Option (Sg)} (hr5 : ∀ (v1 : Int32) (v2 : Int32) (v3 : Int32) (sg : Sg), r5 (v1, v2, v3, sg) = some so → ∀ (H : Heap) (locs : List Loc) (ls : Array Slot), WS ZC D vwCl T ad sg lg A s.heap H locs → lv_has ls 4 [(0, .ref (ad 42)), (1, .int v1), (2, .int v2), (3, .int v3)] → W p l e rmJ7_fill_53178_c42 s m args below meth c H locs 0 0 (MQ below (QV ZC D vwCl T (tysC T) A (fun z => ad = z) so lg) args s 0 0 A) (F0 m 5 ls [])) : ∀ (v1 : Int32) (v2 : Int32) (v3 : Int32) (sg : Sg), ∀ (H : Heap) (locs : List Loc) (ls : Array Slot), WS ZC D vwCl T ad sg lg A s.heap H locs → lv_has ls 4 [(0, .ref (ad 42)), (1, .int v1), (2, .int v2), (3, .int v3)] → fJ7_fill_53178_c42_5 r5 v1 v2 v3 sg = some so → W p l e rmJ7_fill_53178_c42 s m args below meth c H locs 0 0 (MQ below (QV ZC D vwCl T (tysC T) A (fun z => ad = z) so lg) args s 0 0 A) (F0 m 5 ls []) := by
  obtain ⟨⟨hx, hb, hml, hown, hts⟩, hr, hlk, hK, hA, hsp⟩ := id C
  intro v1 v2 v3 sg H locs ls hw hl h
  unfold fJ7_fill_53178_c42_5 at h
  refine lv_iload_n hx hb dJ7_fill_53178_5 rfl (lv_at hl 2 rfl) ?_
  refine lv_iload_n hx hb dJ7_fill_53178_6 rfl (lv_at hl 3 rfl) ?_
  refine lv_icmp_ge (tgt := 20) hx hb dJ7_fill_53178_7 (by decide) (fun c1 => ?_) (fun c1 => ?_)
  · replace h := ite_t h c1
    cases h
    exact r_vret C hw rfl (by decide) (by decide) dJ7_fill_53178_20
  · replace h := ite_f h c1
    refine lv_aload_n hx hb dJ7_fill_53178_10 rfl (lv_at hl 0 rfl) ?_
    refine lv_iload_n hx hb dJ7_fill_53178_11 rfl (lv_at hl 2 rfl) ?_
    refine lv_iload_n hx hb dJ7_fill_53178_12 rfl (lv_at hl 1 rfl) ?_
    have hi2 := (gin_some h).1
    replace h := (gin_some h).2
    refine r_iast ZC_ok hx hb hK hw 42 0 12 (by decide) rfl rfl rfl hi2 dJ7_fill_53178_13 (fun H locs sg3 esg3 hw => ?_)
    replace h := lt_get h sg3 esg3
    obtain ⟨x4, ex4⟩ : ∃ z : Int32, z = (v2 + (1 : Int32)) := ⟨_, rfl⟩
    replace h := lt_get h x4 ex4
    refine lv_iinc (v := x4) (lv' := [(2, .int x4), (0, .ref (ad 42)), (1, .int v1), (3, .int v3)]) hx hb dJ7_fill_53178_14 hl (k := 2) rfl (by rw [ex4]; rfl) (by decide) rfl (fun ls hl => ?_)
    refine lv_goto (tgt := 5) hx hb dJ7_fill_53178_17 (by decide) ?_
    exact hr5 v1 x4 v3 sg3 h _ _ _ hw (lv_sub hl [1, 2, 0, 3] rfl)
def LJ7_fill_53178_c42_5  : (Int32 × Int32 × Int32 × Sg) → Option (Sg) := loop (fun rec z => fJ7_fill_53178_c42_5 rec z.1 z.2.1 z.2.2.1 z.2.2.2)
theorem TJ7_fill_53178_c42_5 (C : Cx p s m args meth c cJ7_fill_53178 4 RJ7 wsJ7_fill_53178 none D vwCl (tysC T) A true nwL) {so : Sg}   : ∀ (v1 : Int32) (v2 : Int32) (v3 : Int32) (sg : Sg), LJ7_fill_53178_c42_5 (v1, v2, v3, sg) = some so → ∀ (H : Heap) (locs : List Loc) (ls : Array Slot), WS ZC D vwCl T ad sg lg A s.heap H locs → lv_has ls 4 [(0, .ref (ad 42)), (1, .int v1), (2, .int v2), (3, .int v3)] → W p l e rmJ7_fill_53178_c42 s m args below meth c H locs 0 0 (MQ below (QV ZC D vwCl T (tysC T) A (fun z => ad = z) so lg) args s 0 0 A) (F0 m 5 ls []) := by
  have key : ∀ z : (Int32 × Int32 × Int32 × Sg), LJ7_fill_53178_c42_5  z = some so → ∀ (H : Heap) (locs : List Loc) (ls : Array Slot), WS ZC D vwCl T ad z.2.2.2 lg A s.heap H locs → lv_has ls 4 [(0, .ref (ad 42)), (1, .int z.1), (2, .int z.2.1), (3, .int z.2.2.1)] → W p l e rmJ7_fill_53178_c42 s m args below meth c H locs 0 0 (MQ below (QV ZC D vwCl T (tysC T) A (fun z => ad = z) so lg) args s 0 0 A) (F0 m 5 ls []) := by
    intro z h
    unfold LJ7_fill_53178_c42_5 at h
    exact loop_ind (fun rec z => fJ7_fill_53178_c42_5 rec z.1 z.2.1 z.2.2.1 z.2.2.2) (y := so) (P := fun z => ∀ (H : Heap) (locs : List Loc) (ls : Array Slot), WS ZC D vwCl T ad z.2.2.2 lg A s.heap H locs → lv_has ls 4 [(0, .ref (ad 42)), (1, .int z.1), (2, .int z.2.1), (3, .int z.2.2.1)] → W p l e rmJ7_fill_53178_c42 s m args below meth c H locs 0 0 (MQ below (QV ZC D vwCl T (tysC T) A (fun z => ad = z) so lg) args s 0 0 A) (F0 m 5 ls [])) (fun rec hrec z h H locs ls hw hl => tJ7_fill_53178_c42_5 C  (fun v1 v2 v3 sg => hrec (v1, v2, v3, sg)) z.1 z.2.1 z.2.2.1 z.2.2.2 H locs ls hw hl h) z h
  exact fun v1 v2 v3 sg => key (v1, v2, v3, sg)
def fJ7_fill_53178_c42  (v1 : Int32) (sg : Sg) : Option (Sg) :=
  LJ7_fill_53178_c42_5 (v1, (0 : Int32), (12 : Int32), sg)
set_option maxHeartbeats 4000000 in
set_option maxRecDepth 100000 in
theorem tJ7_fill_53178_c42_0 (C : Cx p s m args meth c cJ7_fill_53178 4 RJ7 wsJ7_fill_53178 none D vwCl (tysC T) A true nwL) {so : Sg}   : ∀ (v1 : Int32) (sg : Sg), ∀ (H : Heap) (locs : List Loc) (ls : Array Slot), WS ZC D vwCl T ad sg lg A s.heap H locs → lv_has ls 4 [(0, .ref (ad 42)), (1, .int v1)] → fJ7_fill_53178_c42 v1 sg = some so → W p l e rmJ7_fill_53178_c42 s m args below meth c H locs 0 0 (MQ below (QV ZC D vwCl T (tysC T) A (fun z => ad = z) so lg) args s 0 0 A) (F0 m 0 ls []) := by
  obtain ⟨⟨hx, hb, hml, hown, hts⟩, hr, hlk, hK, hA, hsp⟩ := id C
  intro v1 sg H locs ls hw hl h
  unfold fJ7_fill_53178_c42 at h
  refine lv_iconst (v := (0 : Int32)) hx hb dJ7_fill_53178_0 (by decide) ?_
  refine lv_istore_n (lv' := [(2, .int (0 : Int32)), (0, .ref (ad 42)), (1, .int v1)]) hx hb dJ7_fill_53178_1 rfl hl (by decide) rfl (fun ls hl => ?_)
  refine lv_aload_n hx hb dJ7_fill_53178_2 rfl (lv_at hl 1 rfl) ?_
  refine r_alen hx hb hK hw 42 0 12 (by decide) 0 rfl (by decide) rfl rfl (v := (12 : Int32)) rfl dJ7_fill_53178_3 ?_
  refine lv_istore_n (lv' := [(3, .int (12 : Int32)), (2, .int (0 : Int32)), (0, .ref (ad 42)), (1, .int v1)]) hx hb dJ7_fill_53178_4 rfl hl (by decide) rfl (fun ls hl => ?_)
  exact TJ7_fill_53178_c42_5 C v1 (0 : Int32) (12 : Int32) sg h _ _ _ hw (lv_sub hl [2, 3, 1, 0] rfl)
theorem mJ7_fill_53178_c42 (l : Launch) (D : va_G) (T : Nat → ClassId) (ad : Nat → Nat) (lg : Lg) (sz : Nat)   (v1 : Int32) (sg : Sg) {so : Sg} (h : fJ7_fill_53178_c42 v1 sg = some so) : Met l yJ7_fill_53178 wsJ7_fill_53178 rmJ7_fill_53178_c42 (PreZ ZC D vwCl T (tysC T) ad sg lg true nwL [.ref (ad 42), .int v1] sz) (QV ZC D vwCl T (tysC T) (va_A (zwd ZC T ad sg lg) sz) (fun z => ad = z) so lg) 0 0 (va_A (zwd ZC T ad sg lg) sz) :=
  metZ [.ref (ad 42), .int v1] sz (by decide) rfl (Nat.le_of_ble_eq_true rfl) (fun p e s m below meth c ls C hw hl => tJ7_fill_53178_c42_0 C v1 sg _ _ _ hw hl h)
-- PeckYard$Rings.takeAllPecks()V
def rmX10_takeAllPecks : Room := { frames := 1, cells := 0, slots := 0, locals := 23 }
theorem kX10_takeAllPecks_f24 : Cond.fieldLink RX10 24 "PeckYard$Rings" "peckedBy" "[I" ∈ wsX10_takeAllPecks := by decide +kernel
theorem kX10_takeAllPecks_iX10 : ∀ w ∈ u_ws RX10 TX10 10, w ∈ wsX10_takeAllPecks := by decide +kernel
theorem kX10_takeAllPecks_f27 : Cond.fieldLink RX10 27 "PeckYard$Rings" "peckersOf" "[I" ∈ wsX10_takeAllPecks := by decide +kernel
theorem kX10_takeAllPecks_f36 : Cond.fieldLink RX10 36 "PeckYard$Rings" "muster" "LPeckYard$Muster;" ∈ wsX10_takeAllPecks := by decide +kernel
theorem kX10_takeAllPecks_f70 : Cond.fieldLink RX10 70 "PeckYard$Muster" "size" "I" ∈ wsX10_takeAllPecks := by decide +kernel
theorem kX10_takeAllPecks_iX8 : ∀ w ∈ u_ws RX8 TX8 10, w ∈ wsX10_takeAllPecks := by decide +kernel
theorem kX10_takeAllPecks_f21 : Cond.fieldLink RX10 21 "PeckYard$Rings" "left" "[I" ∈ wsX10_takeAllPecks := by decide +kernel
def fX10_takeAllPecks_92 (r18 : (Int32 × Sg) → Option (Sg)) (r31 : (Int32 × Int32 × Sg) → Option (Sg)) (v1 : Int32) (v2 : Int32) (sg : Sg) : Option (Sg) :=
  lt (v2 + (1 : Int32)) (fun x1 => r31 (v1, x1, sg))
set_option maxHeartbeats 4000000 in
set_option maxRecDepth 100000 in
theorem tX10_takeAllPecks_92 (C : Cx p s m args meth c cX10_takeAllPecks 4 RX10 wsX10_takeAllPecks none D vwCl (tysC T) A true nwL) {so : Sg} {r18 : (Int32 × Sg) → Option (Sg)} {r31 : (Int32 × Int32 × Sg) → Option (Sg)} (hr18 : ∀ (v1 : Int32) (sg : Sg), r18 (v1, sg) = some so → ∀ (H : Heap) (locs : List Loc) (ls : Array Slot), WS ZC D vwCl T ad sg lg A s.heap H locs → lv_has ls 4 [(0, .ref (ad 8)), (1, .int v1)] → W p l e rmX10_takeAllPecks s m args below meth c H locs 0 0 (MQ below (QV ZC D vwCl T (tysC T) A (fun z => ad = z) so lg) args s 0 0 A) (F0 m 18 ls [])) (hr31 : ∀ (v1 : Int32) (v2 : Int32) (sg : Sg), r31 (v1, v2, sg) = some so → ∀ (H : Heap) (locs : List Loc) (ls : Array Slot), WS ZC D vwCl T ad sg lg A s.heap H locs → lv_has ls 4 [(0, .ref (ad 8)), (1, .int v1), (2, .int v2)] → W p l e rmX10_takeAllPecks s m args below meth c H locs 0 0 (MQ below (QV ZC D vwCl T (tysC T) A (fun z => ad = z) so lg) args s 0 0 A) (F0 m 31 ls [])) : ∀ (v1 : Int32) (v2 : Int32) (sg : Sg), ∀ (H : Heap) (locs : List Loc) (ls : Array Slot), WS ZC D vwCl T ad sg lg A s.heap H locs → lv_has ls 4 [(0, .ref (ad 8)), (1, .int v1), (2, .int v2)] → fX10_takeAllPecks_92 r18 r31 v1 v2 sg = some so → W p l e rmX10_takeAllPecks s m args below meth c H locs 0 0 (MQ below (QV ZC D vwCl T (tysC T) A (fun z => ad = z) so lg) args s 0 0 A) (F0 m 92 ls []) := by
  obtain ⟨⟨hx, hb, hml, hown, hts⟩, hr, hlk, hK, hA, hsp⟩ := id C
  intro v1 v2 sg H locs ls hw hl h
  unfold fX10_takeAllPecks_92 at h
  obtain ⟨x1, ex1⟩ : ∃ z : Int32, z = (v2 + (1 : Int32)) := ⟨_, rfl⟩
  replace h := lt_get h x1 ex1
  refine lv_iinc (v := x1) (lv' := [(2, .int x1), (0, .ref (ad 8)), (1, .int v1)]) hx hb dX10_takeAllPecks_92 hl (k := 2) rfl (by rw [ex1]; rfl) (by decide) rfl (fun ls hl => ?_)
  refine lv_goto (tgt := 31) hx hb dX10_takeAllPecks_95 (by decide) ?_
  exact hr31 v1 x1 sg h _ _ _ hw (lv_sub hl [1, 2, 0] rfl)
def fX10_takeAllPecks_31 (r18 : (Int32 × Sg) → Option (Sg)) (r31 : (Int32 × Int32 × Sg) → Option (Sg)) (v1 : Int32) (v2 : Int32) (sg : Sg) : Option (Sg) :=
  (if (sg 3 2) ≤ v2 then lt (v1 + (1 : Int32)) (fun x2 => r18 (x2, sg)) else bnd2 (fX8_peckOf v1 v2 sg) (fun y3 sg4 => gin ((v1 * (12 : Int32)) + v2) 144 (lt (up2 sg4 40 ((v1 * (12 : Int32)) + v2).toNatClampNeg y3) (fun sg7 => (if y3 ≤ 0 then fX10_takeAllPecks_92 r18 r31 v1 v2 sg7 else gin v1 12 (lt ((sg7 41 v1.toNatClampNeg) ||| ((1 : Int32) <<< (v2 &&& 31))) (fun x10 => gin v1 12 (lt (up2 sg7 41 v1.toNatClampNeg x10) (fun sg12 => gin v2 12 (lt ((sg12 42 v2.toNatClampNeg) ||| ((1 : Int32) <<< (v1 &&& 31))) (fun x14 => gin v2 12 (lt (up2 sg12 42 v2.toNatClampNeg x14) (fun sg16 => fX10_takeAllPecks_92 r18 r31 v1 v2 sg16)))))))))))))
set_option maxHeartbeats 4000000 in
set_option maxRecDepth 100000 in
theorem tX10_takeAllPecks_31 (C : Cx p s m args meth c cX10_takeAllPecks 4 RX10 wsX10_takeAllPecks none D vwCl (tysC T) A true nwL) {so : Sg} {r18 : (Int32 × Sg) → Option (Sg)} {r31 : (Int32 × Int32 × Sg) → Option (Sg)} (hr18 : ∀ (v1 : Int32) (sg : Sg), r18 (v1, sg) = some so → ∀ (H : Heap) (locs : List Loc) (ls : Array Slot), WS ZC D vwCl T ad sg lg A s.heap H locs → lv_has ls 4 [(0, .ref (ad 8)), (1, .int v1)] → W p l e rmX10_takeAllPecks s m args below meth c H locs 0 0 (MQ below (QV ZC D vwCl T (tysC T) A (fun z => ad = z) so lg) args s 0 0 A) (F0 m 18 ls [])) (hr31 : ∀ (v1 : Int32) (v2 : Int32) (sg : Sg), r31 (v1, v2, sg) = some so → ∀ (H : Heap) (locs : List Loc) (ls : Array Slot), WS ZC D vwCl T ad sg lg A s.heap H locs → lv_has ls 4 [(0, .ref (ad 8)), (1, .int v1), (2, .int v2)] → W p l e rmX10_takeAllPecks s m args below meth c H locs 0 0 (MQ below (QV ZC D vwCl T (tysC T) A (fun z => ad = z) so lg) args s 0 0 A) (F0 m 31 ls [])) : ∀ (v1 : Int32) (v2 : Int32) (sg : Sg), ∀ (H : Heap) (locs : List Loc) (ls : Array Slot), WS ZC D vwCl T ad sg lg A s.heap H locs → lv_has ls 4 [(0, .ref (ad 8)), (1, .int v1), (2, .int v2)] → fX10_takeAllPecks_31 r18 r31 v1 v2 sg = some so → W p l e rmX10_takeAllPecks s m args below meth c H locs 0 0 (MQ below (QV ZC D vwCl T (tysC T) A (fun z => ad = z) so lg) args s 0 0 A) (F0 m 31 ls []) := by
  obtain ⟨⟨hx, hb, hml, hown, hts⟩, hr, hlk, hK, hA, hsp⟩ := id C
  intro v1 v2 sg H locs ls hw hl h
  unfold fX10_takeAllPecks_31 at h
  refine lv_iload_n hx hb dX10_takeAllPecks_31 rfl (lv_at hl 2 rfl) ?_
  refine lv_aload_n hx hb dX10_takeAllPecks_32 rfl (lv_at hl 0 rfl) ?_
  refine r_getR (ci := 10) (C := RX10) (U := TX10) (N := 10) hx hb hts kX10_takeAllPecks_iX10 hown hK hw 8 (by decide) rfl rfl 0 (by decide) 3 rfl (hts _ kX10_takeAllPecks_f36) (fun _ h9 => h9) dX10_takeAllPecks_33 ?_
  refine r_getI (ci := 8) (C := RX8) (U := TX8) (N := 10) hx hb hts kX10_takeAllPecks_iX8 hown hK hw 3 (by decide) rfl rfl 2 (by decide) rfl (hts _ kX10_takeAllPecks_f70) (fun _ h9 => h9) dX10_takeAllPecks_36 ?_
  refine lv_icmp_ge (tgt := 98) hx hb dX10_takeAllPecks_39 (by decide) (fun c1 => ?_) (fun c1 => ?_)
  · replace h := ite_t h c1
    obtain ⟨x2, ex2⟩ : ∃ z : Int32, z = (v1 + (1 : Int32)) := ⟨_, rfl⟩
    replace h := lt_get h x2 ex2
    refine lv_iinc (v := x2) (lv' := [(1, .int x2), (0, .ref (ad 8)), (2, .int v2)]) hx hb dX10_takeAllPecks_98 hl (k := 1) rfl (by rw [ex2]; rfl) (by decide) rfl (fun ls hl => ?_)
    refine lv_goto (tgt := 18) hx hb dX10_takeAllPecks_101 (by decide) ?_
    exact hr18 x2 sg h _ _ _ hw (lv_sub hl [1, 0] rfl)
  · replace h := ite_f h c1
    refine lv_aload_n hx hb dX10_takeAllPecks_42 rfl (lv_at hl 0 rfl) ?_
    refine r_getR (ci := 10) (C := RX10) (U := TX10) (N := 10) hx hb hts kX10_takeAllPecks_iX10 hown hK hw 8 (by decide) rfl rfl 0 (by decide) 3 rfl (hts _ kX10_takeAllPecks_f36) (fun _ h9 => h9) dX10_takeAllPecks_43 ?_
    refine lv_iload_n hx hb dX10_takeAllPecks_46 rfl (lv_at hl 1 rfl) ?_
    refine lv_iload_n hx hb dX10_takeAllPecks_47 rfl (lv_at hl 2 rfl) ?_
    obtain ⟨y3, sg4, hq5, h2⟩ := bnd2_some h
    replace h := h2
    clear h2
    refine r_cVi (As := [.int v1, .int v2]) (rest := []) C hw 3 (by decide) (ci := 8) rfl rfl (mX8_peckOf l D T ad lg H.size v1 v2 sg hq5) (cwV 2 hts gX10_takeAllPecks_X8_peckOf rfl rfl rfl (by decide +kernel) ⟨Nat.le_of_ble_eq_true rfl, Nat.le_of_ble_eq_true rfl⟩) rfl hl.1 rfl (Nat.le_of_ble_eq_true rfl) dX10_takeAllPecks_48 ⟨Nat.le_of_ble_eq_true rfl, Nat.le_of_ble_eq_true rfl⟩ (fun ad' H locs hp hw => ?_)
    subst hp
    refine W.widen (k := 0) (n := 0) (by decide) (by decide) ?_
    refine lv_istore_n (lv' := [(3, .int y3), (0, .ref (ad 8)), (1, .int v1), (2, .int v2)]) hx hb dX10_takeAllPecks_51 rfl hl (by decide) rfl (fun ls hl => ?_)
    refine lv_aload_n hx hb dX10_takeAllPecks_52 rfl (lv_at hl 1 rfl) ?_
    refine r_getR (ci := 10) (C := RX10) (U := TX10) (N := 10) hx hb hts kX10_takeAllPecks_iX10 hown hK hw 8 (by decide) rfl rfl 5 (by decide) 40 rfl (hts _ kX10_takeAllPecks_f21) (fun _ h9 => h9) dX10_takeAllPecks_53 ?_
    refine lv_iload_n hx hb dX10_takeAllPecks_56 rfl (lv_at hl 2 rfl) ?_
    refine lv_bipush (v := (12 : Int32)) hx hb dX10_takeAllPecks_57 (by decide) ?_
    refine lv_imul hx hb dX10_takeAllPecks_59 ?_
    refine lv_iload_n hx hb dX10_takeAllPecks_60 rfl (lv_at hl 3 rfl) ?_
    refine lv_iadd hx hb dX10_takeAllPecks_61 ?_
    refine lv_iload_n hx hb dX10_takeAllPecks_62 rfl (lv_at hl 0 rfl) ?_
    have hi6 := (gin_some h).1
    replace h := (gin_some h).2
    refine r_iast ZC_ok hx hb hK hw 40 0 144 (by decide) rfl rfl rfl hi6 dX10_takeAllPecks_63 (fun H locs sg7 esg7 hw => ?_)
    replace h := lt_get h sg7 esg7
    refine lv_iload_n hx hb dX10_takeAllPecks_64 rfl (lv_at hl 0 rfl) ?_
    refine lv_if_le (tgt := 92) hx hb dX10_takeAllPecks_65 (by decide) (fun c8 => ?_) (fun c8 => ?_)
    · replace h := ite_t h c8
      exact tX10_takeAllPecks_92 C hr18 hr31 v1 v2 sg7 _ _ _ hw (lv_sub hl [1, 2, 3] rfl) h
    · replace h := ite_f h c8
      refine lv_aload_n hx hb dX10_takeAllPecks_68 rfl (lv_at hl 1 rfl) ?_
      refine r_getR (ci := 10) (C := RX10) (U := TX10) (N := 10) hx hb hts kX10_takeAllPecks_iX10 hown hK hw 8 (by decide) rfl rfl 6 (by decide) 41 rfl (hts _ kX10_takeAllPecks_f24) (fun _ h9 => h9) dX10_takeAllPecks_69 ?_
      refine lv_iload_n hx hb dX10_takeAllPecks_72 rfl (lv_at hl 2 rfl) ?_
      refine lv_dup2_11 hx hb dX10_takeAllPecks_73 rfl rfl ?_
      have hi9 := (gin_some h).1
      replace h := (gin_some h).2
      refine r_iald hx hb hK hw 41 0 12 (by decide) rfl rfl rfl hi9 dX10_takeAllPecks_74 ?_
      refine lv_iconst (v := (1 : Int32)) hx hb dX10_takeAllPecks_75 (by decide) ?_
      refine lv_iload_n hx hb dX10_takeAllPecks_76 rfl (lv_at hl 3 rfl) ?_
      refine lv_ishl hx hb dX10_takeAllPecks_77 ?_
      refine lv_ior hx hb dX10_takeAllPecks_78 ?_
      refine lv_topi (fun x10 ex10 => ?_)
      replace h := lt_get h x10 ex10
      have hi11 := (gin_some h).1
      replace h := (gin_some h).2
      refine r_iast ZC_ok hx hb hK hw 41 0 12 (by decide) rfl rfl rfl hi11 dX10_takeAllPecks_79 (fun H locs sg12 esg12 hw => ?_)
      replace h := lt_get h sg12 esg12
      refine lv_aload_n hx hb dX10_takeAllPecks_80 rfl (lv_at hl 1 rfl) ?_
      refine r_getR (ci := 10) (C := RX10) (U := TX10) (N := 10) hx hb hts kX10_takeAllPecks_iX10 hown hK hw 8 (by decide) rfl rfl 7 (by decide) 42 rfl (hts _ kX10_takeAllPecks_f27) (fun _ h9 => h9) dX10_takeAllPecks_81 ?_
      refine lv_iload_n hx hb dX10_takeAllPecks_84 rfl (lv_at hl 3 rfl) ?_
      refine lv_dup2_11 hx hb dX10_takeAllPecks_85 rfl rfl ?_
      have hi13 := (gin_some h).1
      replace h := (gin_some h).2
      refine r_iald hx hb hK hw 42 0 12 (by decide) rfl rfl rfl hi13 dX10_takeAllPecks_86 ?_
      refine lv_iconst (v := (1 : Int32)) hx hb dX10_takeAllPecks_87 (by decide) ?_
      refine lv_iload_n hx hb dX10_takeAllPecks_88 rfl (lv_at hl 2 rfl) ?_
      refine lv_ishl hx hb dX10_takeAllPecks_89 ?_
      refine lv_ior hx hb dX10_takeAllPecks_90 ?_
      refine lv_topi (fun x14 ex14 => ?_)
      replace h := lt_get h x14 ex14
      have hi15 := (gin_some h).1
      replace h := (gin_some h).2
      refine r_iast ZC_ok hx hb hK hw 42 0 12 (by decide) rfl rfl rfl hi15 dX10_takeAllPecks_91 (fun H locs sg16 esg16 hw => ?_)
      replace h := lt_get h sg16 esg16
      exact tX10_takeAllPecks_92 C hr18 hr31 v1 v2 sg16 _ _ _ hw (lv_sub hl [1, 2, 3] rfl) h
def LX10_takeAllPecks_31 (r18 : (Int32 × Sg) → Option (Sg)) : (Int32 × Int32 × Sg) → Option (Sg) := loop (fun rec z => fX10_takeAllPecks_31 r18 rec z.1 z.2.1 z.2.2)
theorem TX10_takeAllPecks_31 (C : Cx p s m args meth c cX10_takeAllPecks 4 RX10 wsX10_takeAllPecks none D vwCl (tysC T) A true nwL) {so : Sg} {r18 : (Int32 × Sg) → Option (Sg)} (hr18 : ∀ (v1 : Int32) (sg : Sg), r18 (v1, sg) = some so → ∀ (H : Heap) (locs : List Loc) (ls : Array Slot), WS ZC D vwCl T ad sg lg A s.heap H locs → lv_has ls 4 [(0, .ref (ad 8)), (1, .int v1)] → W p l e rmX10_takeAllPecks s m args below meth c H locs 0 0 (MQ below (QV ZC D vwCl T (tysC T) A (fun z => ad = z) so lg) args s 0 0 A) (F0 m 18 ls [])) : ∀ (v1 : Int32) (v2 : Int32) (sg : Sg), LX10_takeAllPecks_31 r18 (v1, v2, sg) = some so → ∀ (H : Heap) (locs : List Loc) (ls : Array Slot), WS ZC D vwCl T ad sg lg A s.heap H locs → lv_has ls 4 [(0, .ref (ad 8)), (1, .int v1), (2, .int v2)] → W p l e rmX10_takeAllPecks s m args below meth c H locs 0 0 (MQ below (QV ZC D vwCl T (tysC T) A (fun z => ad = z) so lg) args s 0 0 A) (F0 m 31 ls []) := by
  have key : ∀ z : (Int32 × Int32 × Sg), LX10_takeAllPecks_31 r18 z = some so → ∀ (H : Heap) (locs : List Loc) (ls : Array Slot), WS ZC D vwCl T ad z.2.2 lg A s.heap H locs → lv_has ls 4 [(0, .ref (ad 8)), (1, .int z.1), (2, .int z.2.1)] → W p l e rmX10_takeAllPecks s m args below meth c H locs 0 0 (MQ below (QV ZC D vwCl T (tysC T) A (fun z => ad = z) so lg) args s 0 0 A) (F0 m 31 ls []) := by
    intro z h
    unfold LX10_takeAllPecks_31 at h
    exact loop_ind (fun rec z => fX10_takeAllPecks_31 r18 rec z.1 z.2.1 z.2.2) (y := so) (P := fun z => ∀ (H : Heap) (locs : List Loc) (ls : Array Slot), WS ZC D vwCl T ad z.2.2 lg A s.heap H locs → lv_has ls 4 [(0, .ref (ad 8)), (1, .int z.1), (2, .int z.2.1)] → W p l e rmX10_takeAllPecks s m args below meth c H locs 0 0 (MQ below (QV ZC D vwCl T (tysC T) A (fun z => ad = z) so lg) args s 0 0 A) (F0 m 31 ls [])) (fun rec hrec z h H locs ls hw hl => tX10_takeAllPecks_31 C hr18 (fun v1 v2 sg => hrec (v1, v2, sg)) z.1 z.2.1 z.2.2 H locs ls hw hl h) z h
  exact fun v1 v2 sg => key (v1, v2, sg)
def fX10_takeAllPecks_18 (r18 : (Int32 × Sg) → Option (Sg)) (v1 : Int32) (sg : Sg) : Option (Sg) :=
  (if (sg 3 2) ≤ v1 then some sg else LX10_takeAllPecks_31 r18 (v1, (0 : Int32), sg))
set_option maxHeartbeats 4000000 in
set_option maxRecDepth 100000 in
theorem tX10_takeAllPecks_18 (C : Cx p s m args meth c cX10_takeAllPecks 4 RX10 wsX10_takeAllPecks none D vwCl (tysC T) A true nwL) {so : Sg} {r18 : (Int32 × Sg) → Option (Sg)} (hr18 : ∀ (v1 : Int32) (sg : Sg), r18 (v1, sg) = some so → ∀ (H : Heap) (locs : List Loc) (ls : Array Slot), WS ZC D vwCl T ad sg lg A s.heap H locs → lv_has ls 4 [(0, .ref (ad 8)), (1, .int v1)] → W p l e rmX10_takeAllPecks s m args below meth c H locs 0 0 (MQ below (QV ZC D vwCl T (tysC T) A (fun z => ad = z) so lg) args s 0 0 A) (F0 m 18 ls [])) : ∀ (v1 : Int32) (sg : Sg), ∀ (H : Heap) (locs : List Loc) (ls : Array Slot), WS ZC D vwCl T ad sg lg A s.heap H locs → lv_has ls 4 [(0, .ref (ad 8)), (1, .int v1)] → fX10_takeAllPecks_18 r18 v1 sg = some so → W p l e rmX10_takeAllPecks s m args below meth c H locs 0 0 (MQ below (QV ZC D vwCl T (tysC T) A (fun z => ad = z) so lg) args s 0 0 A) (F0 m 18 ls []) := by
  obtain ⟨⟨hx, hb, hml, hown, hts⟩, hr, hlk, hK, hA, hsp⟩ := id C
  intro v1 sg H locs ls hw hl h
  unfold fX10_takeAllPecks_18 at h
  refine lv_iload_n hx hb dX10_takeAllPecks_18 rfl (lv_at hl 1 rfl) ?_
  refine lv_aload_n hx hb dX10_takeAllPecks_19 rfl (lv_at hl 0 rfl) ?_
  refine r_getR (ci := 10) (C := RX10) (U := TX10) (N := 10) hx hb hts kX10_takeAllPecks_iX10 hown hK hw 8 (by decide) rfl rfl 0 (by decide) 3 rfl (hts _ kX10_takeAllPecks_f36) (fun _ h9 => h9) dX10_takeAllPecks_20 ?_
  refine r_getI (ci := 8) (C := RX8) (U := TX8) (N := 10) hx hb hts kX10_takeAllPecks_iX8 hown hK hw 3 (by decide) rfl rfl 2 (by decide) rfl (hts _ kX10_takeAllPecks_f70) (fun _ h9 => h9) dX10_takeAllPecks_23 ?_
  refine lv_icmp_ge (tgt := 104) hx hb dX10_takeAllPecks_26 (by decide) (fun c1 => ?_) (fun c1 => ?_)
  · replace h := ite_t h c1
    cases h
    exact r_vret C hw rfl (by decide) (by decide) dX10_takeAllPecks_104
  · replace h := ite_f h c1
    refine lv_iconst (v := (0 : Int32)) hx hb dX10_takeAllPecks_29 (by decide) ?_
    refine lv_istore_n (lv' := [(2, .int (0 : Int32)), (0, .ref (ad 8)), (1, .int v1)]) hx hb dX10_takeAllPecks_30 rfl hl (by decide) rfl (fun ls hl => ?_)
    exact TX10_takeAllPecks_31 C hr18 v1 (0 : Int32) sg h _ _ _ hw (lv_sub hl [1, 2, 0] rfl)
def LX10_takeAllPecks_18  : (Int32 × Sg) → Option (Sg) := loop (fun rec z => fX10_takeAllPecks_18 rec z.1 z.2)
theorem TX10_takeAllPecks_18 (C : Cx p s m args meth c cX10_takeAllPecks 4 RX10 wsX10_takeAllPecks none D vwCl (tysC T) A true nwL) {so : Sg}   : ∀ (v1 : Int32) (sg : Sg), LX10_takeAllPecks_18 (v1, sg) = some so → ∀ (H : Heap) (locs : List Loc) (ls : Array Slot), WS ZC D vwCl T ad sg lg A s.heap H locs → lv_has ls 4 [(0, .ref (ad 8)), (1, .int v1)] → W p l e rmX10_takeAllPecks s m args below meth c H locs 0 0 (MQ below (QV ZC D vwCl T (tysC T) A (fun z => ad = z) so lg) args s 0 0 A) (F0 m 18 ls []) := by
  have key : ∀ z : (Int32 × Sg), LX10_takeAllPecks_18  z = some so → ∀ (H : Heap) (locs : List Loc) (ls : Array Slot), WS ZC D vwCl T ad z.2 lg A s.heap H locs → lv_has ls 4 [(0, .ref (ad 8)), (1, .int z.1)] → W p l e rmX10_takeAllPecks s m args below meth c H locs 0 0 (MQ below (QV ZC D vwCl T (tysC T) A (fun z => ad = z) so lg) args s 0 0 A) (F0 m 18 ls []) := by
    intro z h
    unfold LX10_takeAllPecks_18 at h
    exact loop_ind (fun rec z => fX10_takeAllPecks_18 rec z.1 z.2) (y := so) (P := fun z => ∀ (H : Heap) (locs : List Loc) (ls : Array Slot), WS ZC D vwCl T ad z.2 lg A s.heap H locs → lv_has ls 4 [(0, .ref (ad 8)), (1, .int z.1)] → W p l e rmX10_takeAllPecks s m args below meth c H locs 0 0 (MQ below (QV ZC D vwCl T (tysC T) A (fun z => ad = z) so lg) args s 0 0 A) (F0 m 18 ls [])) (fun rec hrec z h H locs ls hw hl => tX10_takeAllPecks_18 C  (fun v1 sg => hrec (v1, sg)) z.1 z.2 H locs ls hw hl h) z h
  exact fun v1 sg => key (v1, sg)
def fX10_takeAllPecks  (sg : Sg) : Option (Sg) :=
  bnd1 (fJ7_fill_53178_c41 (0 : Int32) sg) (fun sg1 => bnd1 (fJ7_fill_53178_c42 (0 : Int32) sg1) (fun sg3 => LX10_takeAllPecks_18 ((0 : Int32), sg3)))
set_option maxHeartbeats 4000000 in
set_option maxRecDepth 100000 in
theorem tX10_takeAllPecks_0 (C : Cx p s m args meth c cX10_takeAllPecks 4 RX10 wsX10_takeAllPecks none D vwCl (tysC T) A true nwL) {so : Sg}   : ∀ (sg : Sg), ∀ (H : Heap) (locs : List Loc) (ls : Array Slot), WS ZC D vwCl T ad sg lg A s.heap H locs → lv_has ls 4 [(0, .ref (ad 8))] → fX10_takeAllPecks sg = some so → W p l e rmX10_takeAllPecks s m args below meth c H locs 0 0 (MQ below (QV ZC D vwCl T (tysC T) A (fun z => ad = z) so lg) args s 0 0 A) (F0 m 0 ls []) := by
  obtain ⟨⟨hx, hb, hml, hown, hts⟩, hr, hlk, hK, hA, hsp⟩ := id C
  intro sg H locs ls hw hl h
  unfold fX10_takeAllPecks at h
  refine lv_aload_n hx hb dX10_takeAllPecks_0 rfl (lv_at hl 0 rfl) ?_
  refine r_getR (ci := 10) (C := RX10) (U := TX10) (N := 10) hx hb hts kX10_takeAllPecks_iX10 hown hK hw 8 (by decide) rfl rfl 6 (by decide) 41 rfl (hts _ kX10_takeAllPecks_f24) (fun _ h9 => h9) dX10_takeAllPecks_1 ?_
  refine lv_iconst (v := (0 : Int32)) hx hb dX10_takeAllPecks_4 (by decide) ?_
  obtain ⟨sg1, hq2, h2⟩ := bnd1_some h
  replace h := h2
  clear h2
  refine r_cSv (As := [.ref (ad 41), .int (0 : Int32)]) (rest := []) C hw (mJ7_fill_53178_c41 l D T ad lg H.size (0 : Int32) sg hq2) (va_cwS 2 hts gX10_takeAllPecks_J7_fill_53178 rfl rfl rfl (by decide +kernel) ⟨Nat.le_of_ble_eq_true rfl, Nat.le_of_ble_eq_true rfl⟩) rfl hl.1 rfl (Nat.le_of_ble_eq_true rfl) dX10_takeAllPecks_5 ⟨Nat.le_of_ble_eq_true rfl, Nat.le_of_ble_eq_true rfl⟩ (fun ad' H locs hp hw => ?_)
  subst hp
  refine W.widen (k := 0) (n := 0) (by decide) (by decide) ?_
  refine lv_aload_n hx hb dX10_takeAllPecks_8 rfl (lv_at hl 0 rfl) ?_
  refine r_getR (ci := 10) (C := RX10) (U := TX10) (N := 10) hx hb hts kX10_takeAllPecks_iX10 hown hK hw 8 (by decide) rfl rfl 7 (by decide) 42 rfl (hts _ kX10_takeAllPecks_f27) (fun _ h9 => h9) dX10_takeAllPecks_9 ?_
  refine lv_iconst (v := (0 : Int32)) hx hb dX10_takeAllPecks_12 (by decide) ?_
  obtain ⟨sg3, hq4, h2⟩ := bnd1_some h
  replace h := h2
  clear h2
  refine r_cSv (As := [.ref (ad 42), .int (0 : Int32)]) (rest := []) C hw (mJ7_fill_53178_c42 l D T ad lg H.size (0 : Int32) sg1 hq4) (va_cwS 2 hts gX10_takeAllPecks_J7_fill_53178 rfl rfl rfl (by decide +kernel) ⟨Nat.le_of_ble_eq_true rfl, Nat.le_of_ble_eq_true rfl⟩) rfl hl.1 rfl (Nat.le_of_ble_eq_true rfl) dX10_takeAllPecks_13 ⟨Nat.le_of_ble_eq_true rfl, Nat.le_of_ble_eq_true rfl⟩ (fun ad' H locs hp hw => ?_)
  subst hp
  refine W.widen (k := 0) (n := 0) (by decide) (by decide) ?_
  refine lv_iconst (v := (0 : Int32)) hx hb dX10_takeAllPecks_16 (by decide) ?_
  refine lv_istore_n (lv' := [(1, .int (0 : Int32)), (0, .ref (ad 8))]) hx hb dX10_takeAllPecks_17 rfl hl (by decide) rfl (fun ls hl => ?_)
  exact TX10_takeAllPecks_18 C (0 : Int32) sg3 h _ _ _ hw (lv_sub hl [1, 0] rfl)
theorem mX10_takeAllPecks (l : Launch) (D : va_G) (T : Nat → ClassId) (ad : Nat → Nat) (lg : Lg) (sz : Nat)   (sg : Sg) {so : Sg} (h : fX10_takeAllPecks sg = some so) : Met l yX10_takeAllPecks wsX10_takeAllPecks rmX10_takeAllPecks (PreZ ZC D vwCl T (tysC T) ad sg lg true nwL [.ref (ad 8)] sz) (QV ZC D vwCl T (tysC T) (va_A (zwd ZC T ad sg lg) sz) (fun z => ad = z) so lg) 0 0 (va_A (zwd ZC T ad sg lg) sz) :=
  metZ [.ref (ad 8)] sz (by decide) rfl (Nat.le_of_ble_eq_true rfl) (fun p e s m below meth c ls C hw hl => tX10_takeAllPecks_0 C sg _ _ _ hw hl h)
-- PeckYard$Rings.peckersOfSet(I)I
def rmX10_peckersOfSet : Room := { frames := 1, cells := 0, slots := 0, locals := 21 }
theorem kX10_peckersOfSet_f36 : Cond.fieldLink RX10 36 "PeckYard$Rings" "muster" "LPeckYard$Muster;" ∈ wsX10_peckersOfSet := by decide +kernel
theorem kX10_peckersOfSet_iX10 : ∀ w ∈ u_ws RX10 TX10 10, w ∈ wsX10_peckersOfSet := by decide +kernel
theorem kX10_peckersOfSet_f70 : Cond.fieldLink RX10 70 "PeckYard$Muster" "size" "I" ∈ wsX10_peckersOfSet := by decide +kernel
theorem kX10_peckersOfSet_iX8 : ∀ w ∈ u_ws RX8 TX8 10, w ∈ wsX10_peckersOfSet := by decide +kernel
theorem kX10_peckersOfSet_ini_X11 : Cond.initialized "PeckYard" ∈ wsX10_peckersOfSet := by decide +kernel
theorem kX10_peckersOfSet_s87 : Cond.static yX11_isIn ∈ wsX10_peckersOfSet := by decide +kernel
theorem kX10_peckersOfSet_f27 : Cond.fieldLink RX10 27 "PeckYard$Rings" "peckersOf" "[I" ∈ wsX10_peckersOfSet := by decide +kernel
def fX10_peckersOfSet_32 (r4 : (Int32 × Int32 × Int32 × Sg) → Option (Int32 × Sg)) (v1 : Int32) (v2 : Int32) (v3 : Int32) (sg : Sg) : Option (Int32 × Sg) :=
  lt (v3 + (1 : Int32)) (fun x1 => r4 (v1, v2, x1, sg))
set_option maxHeartbeats 4000000 in
set_option maxRecDepth 100000 in
theorem tX10_peckersOfSet_32 (C : Cx p s m args meth c cX10_peckersOfSet 4 RX10 wsX10_peckersOfSet (some .int) D vwCl (tysC T) A true nwL) {ro : Int32} {so : Sg} {r4 : (Int32 × Int32 × Int32 × Sg) → Option (Int32 × Sg)} (hr4 : ∀ (v1 : Int32) (v2 : Int32) (v3 : Int32) (sg : Sg), r4 (v1, v2, v3, sg) = some (ro, so) → ∀ (H : Heap) (locs : List Loc) (ls : Array Slot), WS ZC D vwCl T ad sg lg A s.heap H locs → lv_has ls 4 [(0, .ref (ad 8)), (1, .int v1), (2, .int v2), (3, .int v3)] → W p l e rmX10_peckersOfSet s m args below meth c H locs 0 0 (MQ below (QI ZC D vwCl T (tysC T) A (fun z => ad = z) ro so lg) args s 0 0 A) (F0 m 4 ls [])) : ∀ (v1 : Int32) (v2 : Int32) (v3 : Int32) (sg : Sg), ∀ (H : Heap) (locs : List Loc) (ls : Array Slot), WS ZC D vwCl T ad sg lg A s.heap H locs → lv_has ls 4 [(0, .ref (ad 8)), (1, .int v1), (2, .int v2), (3, .int v3)] → fX10_peckersOfSet_32 r4 v1 v2 v3 sg = some (ro, so) → W p l e rmX10_peckersOfSet s m args below meth c H locs 0 0 (MQ below (QI ZC D vwCl T (tysC T) A (fun z => ad = z) ro so lg) args s 0 0 A) (F0 m 32 ls []) := by
  obtain ⟨⟨hx, hb, hml, hown, hts⟩, hr, hlk, hK, hA, hsp⟩ := id C
  intro v1 v2 v3 sg H locs ls hw hl h
  unfold fX10_peckersOfSet_32 at h
  obtain ⟨x1, ex1⟩ : ∃ z : Int32, z = (v3 + (1 : Int32)) := ⟨_, rfl⟩
  replace h := lt_get h x1 ex1
  refine lv_iinc (v := x1) (lv' := [(3, .int x1), (0, .ref (ad 8)), (1, .int v1), (2, .int v2)]) hx hb dX10_peckersOfSet_32 hl (k := 3) rfl (by rw [ex1]; rfl) (by decide) rfl (fun ls hl => ?_)
  refine lv_goto (tgt := 4) hx hb dX10_peckersOfSet_35 (by decide) ?_
  exact hr4 v1 v2 x1 sg h _ _ _ hw (lv_sub hl [1, 2, 3, 0] rfl)
def fX10_peckersOfSet_4 (r4 : (Int32 × Int32 × Int32 × Sg) → Option (Int32 × Sg)) (v1 : Int32) (v2 : Int32) (v3 : Int32) (sg : Sg) : Option (Int32 × Sg) :=
  (if (sg 3 2) ≤ v3 then some (v2, sg) else bnd2 (fX11_isIn v1 v3 sg) (fun y2 sg3 => (if y2 = 0 then fX10_peckersOfSet_32 r4 v1 v2 v3 sg3 else gin v3 12 (lt (v2 ||| (sg3 42 v3.toNatClampNeg)) (fun x8 => fX10_peckersOfSet_32 r4 v1 x8 v3 sg3)))))
set_option maxHeartbeats 4000000 in
set_option maxRecDepth 100000 in
theorem tX10_peckersOfSet_4 (C : Cx p s m args meth c cX10_peckersOfSet 4 RX10 wsX10_peckersOfSet (some .int) D vwCl (tysC T) A true nwL) {ro : Int32} {so : Sg} {r4 : (Int32 × Int32 × Int32 × Sg) → Option (Int32 × Sg)} (hr4 : ∀ (v1 : Int32) (v2 : Int32) (v3 : Int32) (sg : Sg), r4 (v1, v2, v3, sg) = some (ro, so) → ∀ (H : Heap) (locs : List Loc) (ls : Array Slot), WS ZC D vwCl T ad sg lg A s.heap H locs → lv_has ls 4 [(0, .ref (ad 8)), (1, .int v1), (2, .int v2), (3, .int v3)] → W p l e rmX10_peckersOfSet s m args below meth c H locs 0 0 (MQ below (QI ZC D vwCl T (tysC T) A (fun z => ad = z) ro so lg) args s 0 0 A) (F0 m 4 ls [])) : ∀ (v1 : Int32) (v2 : Int32) (v3 : Int32) (sg : Sg), ∀ (H : Heap) (locs : List Loc) (ls : Array Slot), WS ZC D vwCl T ad sg lg A s.heap H locs → lv_has ls 4 [(0, .ref (ad 8)), (1, .int v1), (2, .int v2), (3, .int v3)] → fX10_peckersOfSet_4 r4 v1 v2 v3 sg = some (ro, so) → W p l e rmX10_peckersOfSet s m args below meth c H locs 0 0 (MQ below (QI ZC D vwCl T (tysC T) A (fun z => ad = z) ro so lg) args s 0 0 A) (F0 m 4 ls []) := by
  obtain ⟨⟨hx, hb, hml, hown, hts⟩, hr, hlk, hK, hA, hsp⟩ := id C
  intro v1 v2 v3 sg H locs ls hw hl h
  unfold fX10_peckersOfSet_4 at h
  refine lv_iload_n hx hb dX10_peckersOfSet_4 rfl (lv_at hl 3 rfl) ?_
  refine lv_aload_n hx hb dX10_peckersOfSet_5 rfl (lv_at hl 0 rfl) ?_
  refine r_getR (ci := 10) (C := RX10) (U := TX10) (N := 10) hx hb hts kX10_peckersOfSet_iX10 hown hK hw 8 (by decide) rfl rfl 0 (by decide) 3 rfl (hts _ kX10_peckersOfSet_f36) (fun _ h9 => h9) dX10_peckersOfSet_6 ?_
  refine r_getI (ci := 8) (C := RX8) (U := TX8) (N := 10) hx hb hts kX10_peckersOfSet_iX8 hown hK hw 3 (by decide) rfl rfl 2 (by decide) rfl (hts _ kX10_peckersOfSet_f70) (fun _ h9 => h9) dX10_peckersOfSet_9 ?_
  refine lv_icmp_ge (tgt := 38) hx hb dX10_peckersOfSet_12 (by decide) (fun c1 => ?_) (fun c1 => ?_)
  · replace h := ite_t h c1
    refine lv_iload_n hx hb dX10_peckersOfSet_38 rfl (lv_at hl 2 rfl) ?_
    cases h
    exact r_iret C hw rfl (by decide) (by decide) dX10_peckersOfSet_39
  · replace h := ite_f h c1
    refine lv_iload_n hx hb dX10_peckersOfSet_15 rfl (lv_at hl 1 rfl) ?_
    refine lv_iload_n hx hb dX10_peckersOfSet_16 rfl (lv_at hl 3 rfl) ?_
    obtain ⟨y2, sg3, hq4, h2⟩ := bnd2_some h
    replace h := h2
    clear h2
    obtain ⟨-, -, hmt5⟩ := hsp rfl
    refine r_cNi (As := [.int v1, .int v3]) (rest := []) C hw (mX11_isIn l D T ad lg H.size v1 v3 sg hq4) ⟨va_cnB (host := "PeckYard") 2 hts gX10_peckersOfSet_X11_isIn_n87 rfl rfl rfl (hmt5 _ nw_X10_87) (hts _ kX10_peckersOfSet_ini_X11) (by decide +kernel) ⟨Nat.le_of_ble_eq_true rfl, Nat.le_of_ble_eq_true rfl⟩, (hts _ kX10_peckersOfSet_s87), trivial⟩ rfl hl.1 rfl (Nat.le_of_ble_eq_true rfl) dX10_peckersOfSet_17 ⟨Nat.le_of_ble_eq_true rfl, Nat.le_of_ble_eq_true rfl⟩ (fun ad' H locs hp hw => ?_)
    subst hp
    refine W.widen (k := 0) (n := 0) (by decide) (by decide) ?_
    refine lv_if_eq (tgt := 32) hx hb dX10_peckersOfSet_20 (by decide) (fun c6 => ?_) (fun c6 => ?_)
    · replace h := ite_t h c6
      exact tX10_peckersOfSet_32 C hr4 v1 v2 v3 sg3 _ _ _ hw (lv_sub hl [0, 1, 2, 3] rfl) h
    · replace h := ite_f h c6
      refine lv_iload_n hx hb dX10_peckersOfSet_23 rfl (lv_at hl 2 rfl) ?_
      refine lv_aload_n hx hb dX10_peckersOfSet_24 rfl (lv_at hl 0 rfl) ?_
      refine r_getR (ci := 10) (C := RX10) (U := TX10) (N := 10) hx hb hts kX10_peckersOfSet_iX10 hown hK hw 8 (by decide) rfl rfl 7 (by decide) 42 rfl (hts _ kX10_peckersOfSet_f27) (fun _ h9 => h9) dX10_peckersOfSet_25 ?_
      refine lv_iload_n hx hb dX10_peckersOfSet_28 rfl (lv_at hl 3 rfl) ?_
      have hi7 := (gin_some h).1
      replace h := (gin_some h).2
      refine r_iald hx hb hK hw 42 0 12 (by decide) rfl rfl rfl hi7 dX10_peckersOfSet_29 ?_
      refine lv_ior hx hb dX10_peckersOfSet_30 ?_
      refine lv_topi (fun x8 ex8 => ?_)
      replace h := lt_get h x8 ex8
      refine lv_istore_n (lv' := [(2, .int x8), (0, .ref (ad 8)), (1, .int v1), (3, .int v3)]) hx hb dX10_peckersOfSet_31 rfl hl (by decide) rfl (fun ls hl => ?_)
      exact tX10_peckersOfSet_32 C hr4 v1 x8 v3 sg3 _ _ _ hw (lv_sub hl [1, 2, 0, 3] rfl) h
def LX10_peckersOfSet_4  : (Int32 × Int32 × Int32 × Sg) → Option (Int32 × Sg) := loop (fun rec z => fX10_peckersOfSet_4 rec z.1 z.2.1 z.2.2.1 z.2.2.2)
theorem TX10_peckersOfSet_4 (C : Cx p s m args meth c cX10_peckersOfSet 4 RX10 wsX10_peckersOfSet (some .int) D vwCl (tysC T) A true nwL) {ro : Int32} {so : Sg}   : ∀ (v1 : Int32) (v2 : Int32) (v3 : Int32) (sg : Sg), LX10_peckersOfSet_4 (v1, v2, v3, sg) = some (ro, so) → ∀ (H : Heap) (locs : List Loc) (ls : Array Slot), WS ZC D vwCl T ad sg lg A s.heap H locs → lv_has ls 4 [(0, .ref (ad 8)), (1, .int v1), (2, .int v2), (3, .int v3)] → W p l e rmX10_peckersOfSet s m args below meth c H locs 0 0 (MQ below (QI ZC D vwCl T (tysC T) A (fun z => ad = z) ro so lg) args s 0 0 A) (F0 m 4 ls []) := by
  have key : ∀ z : (Int32 × Int32 × Int32 × Sg), LX10_peckersOfSet_4  z = some (ro, so) → ∀ (H : Heap) (locs : List Loc) (ls : Array Slot), WS ZC D vwCl T ad z.2.2.2 lg A s.heap H locs → lv_has ls 4 [(0, .ref (ad 8)), (1, .int z.1), (2, .int z.2.1), (3, .int z.2.2.1)] → W p l e rmX10_peckersOfSet s m args below meth c H locs 0 0 (MQ below (QI ZC D vwCl T (tysC T) A (fun z => ad = z) ro so lg) args s 0 0 A) (F0 m 4 ls []) := by
    intro z h
    unfold LX10_peckersOfSet_4 at h
    exact loop_ind (fun rec z => fX10_peckersOfSet_4 rec z.1 z.2.1 z.2.2.1 z.2.2.2) (y := (ro, so)) (P := fun z => ∀ (H : Heap) (locs : List Loc) (ls : Array Slot), WS ZC D vwCl T ad z.2.2.2 lg A s.heap H locs → lv_has ls 4 [(0, .ref (ad 8)), (1, .int z.1), (2, .int z.2.1), (3, .int z.2.2.1)] → W p l e rmX10_peckersOfSet s m args below meth c H locs 0 0 (MQ below (QI ZC D vwCl T (tysC T) A (fun z => ad = z) ro so lg) args s 0 0 A) (F0 m 4 ls [])) (fun rec hrec z h H locs ls hw hl => tX10_peckersOfSet_4 C  (fun v1 v2 v3 sg => hrec (v1, v2, v3, sg)) z.1 z.2.1 z.2.2.1 z.2.2.2 H locs ls hw hl h) z h
  exact fun v1 v2 v3 sg => key (v1, v2, v3, sg)
def fX10_peckersOfSet  (v1 : Int32) (sg : Sg) : Option (Int32 × Sg) :=
  LX10_peckersOfSet_4 (v1, (0 : Int32), (0 : Int32), sg)
set_option maxHeartbeats 4000000 in
set_option maxRecDepth 100000 in
theorem tX10_peckersOfSet_0 (C : Cx p s m args meth c cX10_peckersOfSet 4 RX10 wsX10_peckersOfSet (some .int) D vwCl (tysC T) A true nwL) {ro : Int32} {so : Sg}   : ∀ (v1 : Int32) (sg : Sg), ∀ (H : Heap) (locs : List Loc) (ls : Array Slot), WS ZC D vwCl T ad sg lg A s.heap H locs → lv_has ls 4 [(0, .ref (ad 8)), (1, .int v1)] → fX10_peckersOfSet v1 sg = some (ro, so) → W p l e rmX10_peckersOfSet s m args below meth c H locs 0 0 (MQ below (QI ZC D vwCl T (tysC T) A (fun z => ad = z) ro so lg) args s 0 0 A) (F0 m 0 ls []) := by
  obtain ⟨⟨hx, hb, hml, hown, hts⟩, hr, hlk, hK, hA, hsp⟩ := id C
  intro v1 sg H locs ls hw hl h
  unfold fX10_peckersOfSet at h
  refine lv_iconst (v := (0 : Int32)) hx hb dX10_peckersOfSet_0 (by decide) ?_
  refine lv_istore_n (lv' := [(2, .int (0 : Int32)), (0, .ref (ad 8)), (1, .int v1)]) hx hb dX10_peckersOfSet_1 rfl hl (by decide) rfl (fun ls hl => ?_)
  refine lv_iconst (v := (0 : Int32)) hx hb dX10_peckersOfSet_2 (by decide) ?_
  refine lv_istore_n (lv' := [(3, .int (0 : Int32)), (2, .int (0 : Int32)), (0, .ref (ad 8)), (1, .int v1)]) hx hb dX10_peckersOfSet_3 rfl hl (by decide) rfl (fun ls hl => ?_)
  exact TX10_peckersOfSet_4 C v1 (0 : Int32) (0 : Int32) sg h _ _ _ hw (lv_sub hl [2, 3, 1, 0] rfl)
theorem mX10_peckersOfSet (l : Launch) (D : va_G) (T : Nat → ClassId) (ad : Nat → Nat) (lg : Lg) (sz : Nat)   (v1 : Int32) (sg : Sg) {ro : Int32} {so : Sg} (h : fX10_peckersOfSet v1 sg = some (ro, so)) : Met l yX10_peckersOfSet wsX10_peckersOfSet rmX10_peckersOfSet (PreZ ZC D vwCl T (tysC T) ad sg lg true nwL [.ref (ad 8), .int v1] sz) (QI ZC D vwCl T (tysC T) (va_A (zwd ZC T ad sg lg) sz) (fun z => ad = z) ro so lg) 0 0 (va_A (zwd ZC T ad sg lg) sz) :=
  metZ [.ref (ad 8), .int v1] sz (by decide) rfl (Nat.le_of_ble_eq_true rfl) (fun p e s m below meth c ls C hw hl => tX10_peckersOfSet_0 C v1 sg _ _ _ hw hl h)
-- PeckYard$Rings.lengthFrom(II)I
def rmX10_lengthFrom : Room := { frames := 2, cells := 0, slots := 0, locals := 44 }
theorem kX10_lengthFrom_f36 : Cond.fieldLink RX10 36 "PeckYard$Rings" "muster" "LPeckYard$Muster;" ∈ wsX10_lengthFrom := by decide +kernel
theorem kX10_lengthFrom_iX10 : ∀ w ∈ u_ws RX10 TX10 10, w ∈ wsX10_lengthFrom := by decide +kernel
theorem kX10_lengthFrom_f30 : Cond.fieldLink RX10 30 "PeckYard$Rings" "layers" "[I" ∈ wsX10_lengthFrom := by decide +kernel
theorem kX10_lengthFrom_f24 : Cond.fieldLink RX10 24 "PeckYard$Rings" "peckedBy" "[I" ∈ wsX10_lengthFrom := by decide +kernel
def fX10_lengthFrom_25 (r25 : (Int32 × Int32 × Int32 × Int32 × Sg) → Option (Int32 × Sg)) (v1 : Int32) (v2 : Int32) (v3 : Int32) (v4 : Int32) (sg : Sg) : Option (Int32 × Sg) :=
  (if v2 ≤ (v4 + (1 : Int32)) then some ((0 : Int32), sg) else (if (12 : Int32) ≤ v4 then some ((0 : Int32), sg) else lt (v4 - (1 : Int32)) (fun x3 => gin x3 12 (bnd2 (fX10_peckersOfSet (sg 43 x3.toNatClampNeg) sg) (fun y5 sg6 => lt (y5 &&& v3) (fun x8 => gin v4 12 (lt (up2 sg6 43 v4.toNatClampNeg x8) (fun sg10 => gin v4 12 (lt (v3 &&& ((sg10 43 v4.toNatClampNeg) ^^^ (-1 : Int32))) (fun x12 => gin v4 12 ((if (sg10 43 v4.toNatClampNeg) = 0 then some ((0 : Int32), sg10) else gin v1 12 (gin v4 12 ((if ((sg10 41 v1.toNatClampNeg) &&& (sg10 43 v4.toNatClampNeg)) = 0 then lt (v4 + (1 : Int32)) (fun x18 => r25 (v1, v2, x12, x18, sg10)) else some ((v4 + (1 : Int32)), sg10))))))))))))))))
set_option maxHeartbeats 4000000 in
set_option maxRecDepth 100000 in
theorem tX10_lengthFrom_25 (C : Cx p s m args meth c cX10_lengthFrom 5 RX10 wsX10_lengthFrom (some .int) D vwCl (tysC T) A true nwL) {ro : Int32} {so : Sg} {r25 : (Int32 × Int32 × Int32 × Int32 × Sg) → Option (Int32 × Sg)} (hr25 : ∀ (v1 : Int32) (v2 : Int32) (v3 : Int32) (v4 : Int32) (sg : Sg), r25 (v1, v2, v3, v4, sg) = some (ro, so) → ∀ (H : Heap) (locs : List Loc) (ls : Array Slot), WS ZC D vwCl T ad sg lg A s.heap H locs → lv_has ls 5 [(0, .ref (ad 8)), (1, .int v1), (2, .int v2), (3, .int v3), (4, .int v4)] → W p l e rmX10_lengthFrom s m args below meth c H locs 0 0 (MQ below (QI ZC D vwCl T (tysC T) A (fun z => ad = z) ro so lg) args s 0 0 A) (F0 m 25 ls [])) : ∀ (v1 : Int32) (v2 : Int32) (v3 : Int32) (v4 : Int32) (sg : Sg), ∀ (H : Heap) (locs : List Loc) (ls : Array Slot), WS ZC D vwCl T ad sg lg A s.heap H locs → lv_has ls 5 [(0, .ref (ad 8)), (1, .int v1), (2, .int v2), (3, .int v3), (4, .int v4)] → fX10_lengthFrom_25 r25 v1 v2 v3 v4 sg = some (ro, so) → W p l e rmX10_lengthFrom s m args below meth c H locs 0 0 (MQ below (QI ZC D vwCl T (tysC T) A (fun z => ad = z) ro so lg) args s 0 0 A) (F0 m 25 ls []) := by
  obtain ⟨⟨hx, hb, hml, hown, hts⟩, hr, hlk, hK, hA, hsp⟩ := id C
  intro v1 v2 v3 v4 sg H locs ls hw hl h
  unfold fX10_lengthFrom_25 at h
  refine lv_iload hx hb dX10_lengthFrom_25 (lv_at hl 4 rfl) ?_
  refine lv_iconst (v := (1 : Int32)) hx hb dX10_lengthFrom_27 (by decide) ?_
  refine lv_iadd hx hb dX10_lengthFrom_28 ?_
  refine lv_iload_n hx hb dX10_lengthFrom_29 rfl (lv_at hl 2 rfl) ?_
  refine lv_icmp_ge (tgt := 114) hx hb dX10_lengthFrom_30 (by decide) (fun c1 => ?_) (fun c1 => ?_)
  · replace h := ite_t h c1
    refine lv_iconst (v := (0 : Int32)) hx hb dX10_lengthFrom_114 (by decide) ?_
    cases h
    exact r_iret C hw rfl (by decide) (by decide) dX10_lengthFrom_115
  · replace h := ite_f h c1
    refine lv_iload hx hb dX10_lengthFrom_33 (lv_at hl 4 rfl) ?_
    refine lv_bipush (v := (12 : Int32)) hx hb dX10_lengthFrom_35 (by decide) ?_
    refine lv_icmp_ge (tgt := 114) hx hb dX10_lengthFrom_37 (by decide) (fun c2 => ?_) (fun c2 => ?_)
    · replace h := ite_t h c2
      refine lv_iconst (v := (0 : Int32)) hx hb dX10_lengthFrom_114 (by decide) ?_
      cases h
      exact r_iret C hw rfl (by decide) (by decide) dX10_lengthFrom_115
    · replace h := ite_f h c2
      refine lv_aload_n hx hb dX10_lengthFrom_40 rfl (lv_at hl 0 rfl) ?_
      refine r_getR (ci := 10) (C := RX10) (U := TX10) (N := 10) hx hb hts kX10_lengthFrom_iX10 hown hK hw 8 (by decide) rfl rfl 8 (by decide) 43 rfl (hts _ kX10_lengthFrom_f30) (fun _ h9 => h9) dX10_lengthFrom_41 ?_
      refine lv_iload hx hb dX10_lengthFrom_44 (lv_at hl 4 rfl) ?_
      refine lv_aload_n hx hb dX10_lengthFrom_46 rfl (lv_at hl 0 rfl) ?_
      refine lv_aload_n hx hb dX10_lengthFrom_47 rfl (lv_at hl 0 rfl) ?_
      refine r_getR (ci := 10) (C := RX10) (U := TX10) (N := 10) hx hb hts kX10_lengthFrom_iX10 hown hK hw 8 (by decide) rfl rfl 8 (by decide) 43 rfl (hts _ kX10_lengthFrom_f30) (fun _ h9 => h9) dX10_lengthFrom_48 ?_
      refine lv_iload hx hb dX10_lengthFrom_51 (lv_at hl 4 rfl) ?_
      refine lv_iconst (v := (1 : Int32)) hx hb dX10_lengthFrom_53 (by decide) ?_
      refine lv_isub hx hb dX10_lengthFrom_54 ?_
      refine lv_topi (fun x3 ex3 => ?_)
      replace h := lt_get h x3 ex3
      have hi4 := (gin_some h).1
      replace h := (gin_some h).2
      refine r_iald hx hb hK hw 43 0 12 (by decide) rfl rfl rfl hi4 dX10_lengthFrom_55 ?_
      obtain ⟨y5, sg6, hq7, h2⟩ := bnd2_some h
      replace h := h2
      clear h2
      refine r_cVi (As := [.int (sg 43 x3.toNatClampNeg)]) (rest := [.int v4, .ref (ad 43)]) C hw 8 (by decide) (ci := 10) rfl rfl (mX10_peckersOfSet l D T ad lg H.size (sg 43 x3.toNatClampNeg) sg hq7) (cwV 1 hts gX10_lengthFrom_X10_peckersOfSet rfl rfl rfl (by decide +kernel) ⟨Nat.le_of_ble_eq_true rfl, Nat.le_of_ble_eq_true rfl⟩) rfl hl.1 rfl (Nat.le_of_ble_eq_true rfl) dX10_lengthFrom_56 ⟨Nat.le_of_ble_eq_true rfl, Nat.le_of_ble_eq_true rfl⟩ (fun ad' H locs hp hw => ?_)
      subst hp
      refine W.widen (k := 0) (n := 0) (by decide) (by decide) ?_
      refine lv_iload_n hx hb dX10_lengthFrom_59 rfl (lv_at hl 3 rfl) ?_
      refine lv_iand hx hb dX10_lengthFrom_60 ?_
      refine lv_topi (fun x8 ex8 => ?_)
      replace h := lt_get h x8 ex8
      have hi9 := (gin_some h).1
      replace h := (gin_some h).2
      refine r_iast ZC_ok hx hb hK hw 43 0 12 (by decide) rfl rfl rfl hi9 dX10_lengthFrom_61 (fun H locs sg10 esg10 hw => ?_)
      replace h := lt_get h sg10 esg10
      refine lv_iload_n hx hb dX10_lengthFrom_62 rfl (lv_at hl 3 rfl) ?_
      refine lv_aload_n hx hb dX10_lengthFrom_63 rfl (lv_at hl 0 rfl) ?_
      refine r_getR (ci := 10) (C := RX10) (U := TX10) (N := 10) hx hb hts kX10_lengthFrom_iX10 hown hK hw 8 (by decide) rfl rfl 8 (by decide) 43 rfl (hts _ kX10_lengthFrom_f30) (fun _ h9 => h9) dX10_lengthFrom_64 ?_
      refine lv_iload hx hb dX10_lengthFrom_67 (lv_at hl 4 rfl) ?_
      have hi11 := (gin_some h).1
      replace h := (gin_some h).2
      refine r_iald hx hb hK hw 43 0 12 (by decide) rfl rfl rfl hi11 dX10_lengthFrom_69 ?_
      refine lv_iconst (v := (-1 : Int32)) hx hb dX10_lengthFrom_70 (by decide) ?_
      refine lv_ixor hx hb dX10_lengthFrom_71 ?_
      refine lv_iand hx hb dX10_lengthFrom_72 ?_
      refine lv_topi (fun x12 ex12 => ?_)
      replace h := lt_get h x12 ex12
      refine lv_istore_n (lv' := [(3, .int x12), (0, .ref (ad 8)), (1, .int v1), (2, .int v2), (4, .int v4)]) hx hb dX10_lengthFrom_73 rfl hl (by decide) rfl (fun ls hl => ?_)
      refine lv_aload_n hx hb dX10_lengthFrom_74 rfl (lv_at hl 1 rfl) ?_
      refine r_getR (ci := 10) (C := RX10) (U := TX10) (N := 10) hx hb hts kX10_lengthFrom_iX10 hown hK hw 8 (by decide) rfl rfl 8 (by decide) 43 rfl (hts _ kX10_lengthFrom_f30) (fun _ h9 => h9) dX10_lengthFrom_75 ?_
      refine lv_iload hx hb dX10_lengthFrom_78 (lv_at hl 4 rfl) ?_
      have hi13 := (gin_some h).1
      replace h := (gin_some h).2
      refine r_iald hx hb hK hw 43 0 12 (by decide) rfl rfl rfl hi13 dX10_lengthFrom_80 ?_
      refine lv_if_ne (tgt := 86) hx hb dX10_lengthFrom_81 (by decide) (fun c14 => ?_) (fun c14 => ?_)
      · replace h := ite_f h c14
        refine lv_aload_n hx hb dX10_lengthFrom_86 rfl (lv_at hl 1 rfl) ?_
        refine r_getR (ci := 10) (C := RX10) (U := TX10) (N := 10) hx hb hts kX10_lengthFrom_iX10 hown hK hw 8 (by decide) rfl rfl 6 (by decide) 41 rfl (hts _ kX10_lengthFrom_f24) (fun _ h9 => h9) dX10_lengthFrom_87 ?_
        refine lv_iload_n hx hb dX10_lengthFrom_90 rfl (lv_at hl 2 rfl) ?_
        have hi15 := (gin_some h).1
        replace h := (gin_some h).2
        refine r_iald hx hb hK hw 41 0 12 (by decide) rfl rfl rfl hi15 dX10_lengthFrom_91 ?_
        refine lv_aload_n hx hb dX10_lengthFrom_92 rfl (lv_at hl 1 rfl) ?_
        refine r_getR (ci := 10) (C := RX10) (U := TX10) (N := 10) hx hb hts kX10_lengthFrom_iX10 hown hK hw 8 (by decide) rfl rfl 8 (by decide) 43 rfl (hts _ kX10_lengthFrom_f30) (fun _ h9 => h9) dX10_lengthFrom_93 ?_
        refine lv_iload hx hb dX10_lengthFrom_96 (lv_at hl 4 rfl) ?_
        have hi16 := (gin_some h).1
        replace h := (gin_some h).2
        refine r_iald hx hb hK hw 43 0 12 (by decide) rfl rfl rfl hi16 dX10_lengthFrom_98 ?_
        refine lv_iand hx hb dX10_lengthFrom_99 ?_
        refine lv_if_eq (tgt := 108) hx hb dX10_lengthFrom_100 (by decide) (fun c17 => ?_) (fun c17 => ?_)
        · replace h := ite_t h c17
          obtain ⟨x18, ex18⟩ : ∃ z : Int32, z = (v4 + (1 : Int32)) := ⟨_, rfl⟩
          replace h := lt_get h x18 ex18
          refine lv_iinc (v := x18) (lv' := [(4, .int x18), (3, .int x12), (0, .ref (ad 8)), (1, .int v1), (2, .int v2)]) hx hb dX10_lengthFrom_108 hl (k := 4) rfl (by rw [ex18]; rfl) (by decide) rfl (fun ls hl => ?_)
          refine lv_goto (tgt := 25) hx hb dX10_lengthFrom_111 (by decide) ?_
          exact hr25 v1 v2 x12 x18 sg10 h _ _ _ hw (lv_sub hl [2, 3, 4, 1, 0] rfl)
        · replace h := ite_f h c17
          refine lv_iload hx hb dX10_lengthFrom_103 (lv_at hl 4 rfl) ?_
          refine lv_iconst (v := (1 : Int32)) hx hb dX10_lengthFrom_105 (by decide) ?_
          refine lv_iadd hx hb dX10_lengthFrom_106 ?_
          cases h
          exact r_iret C hw rfl (by decide) (by decide) dX10_lengthFrom_107
      · replace h := ite_t h c14
        refine lv_iconst (v := (0 : Int32)) hx hb dX10_lengthFrom_84 (by decide) ?_
        cases h
        exact r_iret C hw rfl (by decide) (by decide) dX10_lengthFrom_85
def LX10_lengthFrom_25  : (Int32 × Int32 × Int32 × Int32 × Sg) → Option (Int32 × Sg) := loop (fun rec z => fX10_lengthFrom_25 rec z.1 z.2.1 z.2.2.1 z.2.2.2.1 z.2.2.2.2)
theorem TX10_lengthFrom_25 (C : Cx p s m args meth c cX10_lengthFrom 5 RX10 wsX10_lengthFrom (some .int) D vwCl (tysC T) A true nwL) {ro : Int32} {so : Sg}   : ∀ (v1 : Int32) (v2 : Int32) (v3 : Int32) (v4 : Int32) (sg : Sg), LX10_lengthFrom_25 (v1, v2, v3, v4, sg) = some (ro, so) → ∀ (H : Heap) (locs : List Loc) (ls : Array Slot), WS ZC D vwCl T ad sg lg A s.heap H locs → lv_has ls 5 [(0, .ref (ad 8)), (1, .int v1), (2, .int v2), (3, .int v3), (4, .int v4)] → W p l e rmX10_lengthFrom s m args below meth c H locs 0 0 (MQ below (QI ZC D vwCl T (tysC T) A (fun z => ad = z) ro so lg) args s 0 0 A) (F0 m 25 ls []) := by
  have key : ∀ z : (Int32 × Int32 × Int32 × Int32 × Sg), LX10_lengthFrom_25  z = some (ro, so) → ∀ (H : Heap) (locs : List Loc) (ls : Array Slot), WS ZC D vwCl T ad z.2.2.2.2 lg A s.heap H locs → lv_has ls 5 [(0, .ref (ad 8)), (1, .int z.1), (2, .int z.2.1), (3, .int z.2.2.1), (4, .int z.2.2.2.1)] → W p l e rmX10_lengthFrom s m args below meth c H locs 0 0 (MQ below (QI ZC D vwCl T (tysC T) A (fun z => ad = z) ro so lg) args s 0 0 A) (F0 m 25 ls []) := by
    intro z h
    unfold LX10_lengthFrom_25 at h
    exact loop_ind (fun rec z => fX10_lengthFrom_25 rec z.1 z.2.1 z.2.2.1 z.2.2.2.1 z.2.2.2.2) (y := (ro, so)) (P := fun z => ∀ (H : Heap) (locs : List Loc) (ls : Array Slot), WS ZC D vwCl T ad z.2.2.2.2 lg A s.heap H locs → lv_has ls 5 [(0, .ref (ad 8)), (1, .int z.1), (2, .int z.2.1), (3, .int z.2.2.1), (4, .int z.2.2.2.1)] → W p l e rmX10_lengthFrom s m args below meth c H locs 0 0 (MQ below (QI ZC D vwCl T (tysC T) A (fun z => ad = z) ro so lg) args s 0 0 A) (F0 m 25 ls [])) (fun rec hrec z h H locs ls hw hl => tX10_lengthFrom_25 C  (fun v1 v2 v3 v4 sg => hrec (v1, v2, v3, v4, sg)) z.1 z.2.1 z.2.2.1 z.2.2.2.1 z.2.2.2.2 H locs ls hw hl h) z h
  exact fun v1 v2 v3 v4 sg => key (v1, v2, v3, v4, sg)
def fX10_lengthFrom  (v1 : Int32) (v2 : Int32) (sg : Sg) : Option (Int32 × Sg) :=
  bnd2 (fX8_all sg) (fun y1 sg2 => lt (y1 &&& (-((2 : Int32) <<< (v1 &&& 31)))) (fun x4 => lt ((1 : Int32) <<< (v1 &&& 31)) (fun x5 => gin (0 : Int32) 12 (lt (up2 sg2 43 (0 : Int32).toNatClampNeg x5) (fun sg7 => LX10_lengthFrom_25 (v1, v2, x4, (1 : Int32), sg7))))))
set_option maxHeartbeats 4000000 in
set_option maxRecDepth 100000 in
theorem tX10_lengthFrom_0 (C : Cx p s m args meth c cX10_lengthFrom 5 RX10 wsX10_lengthFrom (some .int) D vwCl (tysC T) A true nwL) {ro : Int32} {so : Sg}   : ∀ (v1 : Int32) (v2 : Int32) (sg : Sg), ∀ (H : Heap) (locs : List Loc) (ls : Array Slot), WS ZC D vwCl T ad sg lg A s.heap H locs → lv_has ls 5 [(0, .ref (ad 8)), (1, .int v1), (2, .int v2)] → fX10_lengthFrom v1 v2 sg = some (ro, so) → W p l e rmX10_lengthFrom s m args below meth c H locs 0 0 (MQ below (QI ZC D vwCl T (tysC T) A (fun z => ad = z) ro so lg) args s 0 0 A) (F0 m 0 ls []) := by
  obtain ⟨⟨hx, hb, hml, hown, hts⟩, hr, hlk, hK, hA, hsp⟩ := id C
  intro v1 v2 sg H locs ls hw hl h
  unfold fX10_lengthFrom at h
  refine lv_aload_n hx hb dX10_lengthFrom_0 rfl (lv_at hl 0 rfl) ?_
  refine r_getR (ci := 10) (C := RX10) (U := TX10) (N := 10) hx hb hts kX10_lengthFrom_iX10 hown hK hw 8 (by decide) rfl rfl 0 (by decide) 3 rfl (hts _ kX10_lengthFrom_f36) (fun _ h9 => h9) dX10_lengthFrom_1 ?_
  obtain ⟨y1, sg2, hq3, h2⟩ := bnd2_some h
  replace h := h2
  clear h2
  refine r_cVi (As := []) (rest := []) C hw 3 (by decide) (ci := 8) rfl rfl (mX8_all l D T ad lg H.size sg hq3) (cwV 0 hts gX10_lengthFrom_X8_all rfl rfl rfl (by decide +kernel) ⟨Nat.le_of_ble_eq_true rfl, Nat.le_of_ble_eq_true rfl⟩) rfl hl.1 rfl (Nat.le_of_ble_eq_true rfl) dX10_lengthFrom_4 ⟨Nat.le_of_ble_eq_true rfl, Nat.le_of_ble_eq_true rfl⟩ (fun ad' H locs hp hw => ?_)
  subst hp
  refine W.widen (k := 0) (n := 0) (by decide) (by decide) ?_
  refine lv_iconst (v := (2 : Int32)) hx hb dX10_lengthFrom_7 (by decide) ?_
  refine lv_iload_n hx hb dX10_lengthFrom_8 rfl (lv_at hl 1 rfl) ?_
  refine lv_ishl hx hb dX10_lengthFrom_9 ?_
  refine lv_ineg hx hb dX10_lengthFrom_10 ?_
  refine lv_iand hx hb dX10_lengthFrom_11 ?_
  refine lv_topi (fun x4 ex4 => ?_)
  replace h := lt_get h x4 ex4
  refine lv_istore_n (lv' := [(3, .int x4), (0, .ref (ad 8)), (1, .int v1), (2, .int v2)]) hx hb dX10_lengthFrom_12 rfl hl (by decide) rfl (fun ls hl => ?_)
  refine lv_aload_n hx hb dX10_lengthFrom_13 rfl (lv_at hl 1 rfl) ?_
  refine r_getR (ci := 10) (C := RX10) (U := TX10) (N := 10) hx hb hts kX10_lengthFrom_iX10 hown hK hw 8 (by decide) rfl rfl 8 (by decide) 43 rfl (hts _ kX10_lengthFrom_f30) (fun _ h9 => h9) dX10_lengthFrom_14 ?_
  refine lv_iconst (v := (0 : Int32)) hx hb dX10_lengthFrom_17 (by decide) ?_
  refine lv_iconst (v := (1 : Int32)) hx hb dX10_lengthFrom_18 (by decide) ?_
  refine lv_iload_n hx hb dX10_lengthFrom_19 rfl (lv_at hl 2 rfl) ?_
  refine lv_ishl hx hb dX10_lengthFrom_20 ?_
  refine lv_topi (fun x5 ex5 => ?_)
  replace h := lt_get h x5 ex5
  have hi6 := (gin_some h).1
  replace h := (gin_some h).2
  refine r_iast ZC_ok hx hb hK hw 43 0 12 (by decide) rfl rfl rfl hi6 dX10_lengthFrom_21 (fun H locs sg7 esg7 hw => ?_)
  replace h := lt_get h sg7 esg7
  refine lv_iconst (v := (1 : Int32)) hx hb dX10_lengthFrom_22 (by decide) ?_
  refine lv_istore (lv' := [(4, .int (1 : Int32)), (3, .int x4), (0, .ref (ad 8)), (1, .int v1), (2, .int v2)]) hx hb dX10_lengthFrom_23 hl (by decide) rfl (fun ls hl => ?_)
  exact TX10_lengthFrom_25 C v1 v2 x4 (1 : Int32) sg7 h _ _ _ hw (lv_sub hl [2, 3, 4, 1, 0] rfl)
theorem mX10_lengthFrom (l : Launch) (D : va_G) (T : Nat → ClassId) (ad : Nat → Nat) (lg : Lg) (sz : Nat)   (v1 : Int32) (v2 : Int32) (sg : Sg) {ro : Int32} {so : Sg} (h : fX10_lengthFrom v1 v2 sg = some (ro, so)) : Met l yX10_lengthFrom wsX10_lengthFrom rmX10_lengthFrom (PreZ ZC D vwCl T (tysC T) ad sg lg true nwL [.ref (ad 8), .int v1, .int v2] sz) (QI ZC D vwCl T (tysC T) (va_A (zwd ZC T ad sg lg) sz) (fun z => ad = z) ro so lg) 0 0 (va_A (zwd ZC T ad sg lg) sz) :=
  metZ [.ref (ad 8), .int v1, .int v2] sz (by decide) rfl (Nat.le_of_ble_eq_true rfl) (fun p e s m below meth c ls C hw hl => tX10_lengthFrom_0 C v1 v2 sg _ _ _ hw hl h)
end ZC
