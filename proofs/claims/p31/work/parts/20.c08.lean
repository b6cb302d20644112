section ZC
variable {p : Program} {l : Launch} {e : Env} {s : State} {m : MethodId} {args : Array Value} {below : List Frame} {meth : Method} {c : Code} {D : va_G} {T : Nat → ClassId} {A : Nat → Prop} {ad a : Nat → Nat} {lg : Lg}
-- PeckYard.number()J
def rmX11_number : Room := { frames := 5, cells := 2, slots := 8192, locals := 110 }
theorem kX11_number_f51 : Cond.fieldLink RX11 51 "PeckYard" "line" "LPeckYard$Line;" ∈ wsX11_number := by decide +kernel
theorem kX11_number_iX11 : ∀ w ∈ u_ws RX11 TX11 9, w ∈ wsX11_number := by decide +kernel
theorem kX11_number_f44 : Cond.fieldLink RX11 44 "PeckYard" "hand" "LPeckYard$Hand;" ∈ wsX11_number := by decide +kernel
theorem kX11_number_f37 : Cond.fieldLink RX11 37 "PeckYard" "orders" "LPeckYard$Orders;" ∈ wsX11_number := by decide +kernel
theorem kX11_number_f171 : Cond.fieldLink RX11 171 "PeckYard$Line" "row" "[I" ∈ wsX11_number := by decide +kernel
theorem kX11_number_iX7 : ∀ w ∈ u_ws RX7 TX7 4, w ∈ wsX11_number := by decide +kernel
theorem kX11_number_c113 : Cond.constantLong RX11 113 (-2000000002) ∈ wsX11_number := by decide +kernel
def fX11_number  (sg : Sg) : Option (Int64 × Sg) :=
  bnd2 (fX7_readFrom sg) (fun y1 sg2 => (if y1 = 0 then some ((-2000000002 : Int64), sg2) else bnd1 (fX9_solve sg2) (fun sg5 => bnd2 (fX9_numberOf_c32 sg5) (fun y8 sg9 => some (y8, sg9)))))
set_option maxHeartbeats 4000000 in
set_option maxRecDepth 100000 in
theorem tX11_number_0 (C : Cx p s m args meth c cX11_number 1 RX11 wsX11_number (some .long) D vwCl (tysC T) A true nwL) {ro : Int64} {so : Sg}   : ∀ (sg : Sg), ∀ (g : Nat → Nat) (H : Heap) (locs : List Loc) (ls : Array Slot), WS ZC D vwCl T (adr a g) sg lg A s.heap H locs → lv_has ls 1 [(0, .ref ((adr a g) 0))] → fX11_number sg = some (ro, so) → W p l e rmX11_number s m args below meth c H locs 0 0 (MQ below (QL ZC D vwCl T (tysC T) A (fun z => ∃ g' : Nat → Nat, z = adr a g') ro so lg) args s 2 8192 A) (F0 m 0 ls []) := by
  obtain ⟨⟨hx, hb, hml, hown, hts⟩, hr, hlk, hK, hA, hsp⟩ := id C
  intro sg g H locs ls hw hl h
  unfold fX11_number at h
  refine lv_aload_n hx hb dX11_number_0 rfl (lv_at hl 0 rfl) ?_
  refine r_getR (ci := 11) (C := RX11) (U := TX11) (N := 9) hx hb hts kX11_number_iX11 hown hK hw 0 (by decide) rfl rfl 5 (by decide) 6 rfl (hts _ kX11_number_f51) (fun _ h9 => h9) dX11_number_1 ?_
  refine lv_aload_n hx hb dX11_number_4 rfl (lv_at hl 0 rfl) ?_
  refine r_getR (ci := 11) (C := RX11) (U := TX11) (N := 9) hx hb hts kX11_number_iX11 hown hK hw 0 (by decide) rfl rfl 4 (by decide) 5 rfl (hts _ kX11_number_f44) (fun _ h9 => h9) dX11_number_5 ?_
  obtain ⟨y1, sg2, hq3, h2⟩ := bnd2_some h
  replace h := h2
  clear h2
  refine r_cVi (As := [.ref ((adr a g) 5)]) (rest := []) C hw 6 (by decide) (ci := 7) rfl rfl (mX7_readFrom l D T (adr a g) lg H.size sg hq3) (cwV 1 hts gX11_number_X7_readFrom rfl rfl rfl (by decide +kernel) ⟨Nat.le_of_ble_eq_true rfl, Nat.le_of_ble_eq_true rfl⟩) rfl hl.1 rfl (Nat.le_of_ble_eq_true rfl) dX11_number_8 ⟨Nat.le_of_ble_eq_true rfl, Nat.le_of_ble_eq_true rfl⟩ (fun ad' H locs hp hw => ?_)
  subst hp
  refine W.widen (k := 0) (n := 0) (by decide) (by decide) ?_
  refine lv_if_ne (tgt := 18) hx hb dX11_number_11 (by decide) (fun c4 => ?_) (fun c4 => ?_)
  · replace h := ite_f h c4
    refine lv_aload_n hx hb dX11_number_18 rfl (lv_at hl 0 rfl) ?_
    refine r_getR (ci := 11) (C := RX11) (U := TX11) (N := 9) hx hb hts kX11_number_iX11 hown hK hw 0 (by decide) rfl rfl 3 (by decide) 4 rfl (hts _ kX11_number_f37) (fun _ h9 => h9) dX11_number_19 ?_
    obtain ⟨sg5, hq6, h2⟩ := bnd1_some h
    replace h := h2
    clear h2
    refine r_cVv (As := []) (rest := []) C hw 4 (by decide) (ci := 9) rfl rfl (mX9_solve l D T a g lg H.size sg2 hq6) (cwV 0 hts gX11_number_X9_solve rfl rfl rfl (by decide +kernel) ⟨Nat.le_of_ble_eq_true rfl, Nat.le_of_ble_eq_true rfl⟩) rfl hl.1 rfl (Nat.le_of_ble_eq_true rfl) dX11_number_22 ⟨Nat.le_of_ble_eq_true rfl, Nat.le_of_ble_eq_true rfl⟩ (fun ad' H locs hp hw => ?_)
    obtain ⟨g7, rfl⟩ := hp
    refine W.widen (k := 2) (n := 8192) (by decide) (by decide) ?_
    refine lv_aload_n hx hb dX11_number_25 rfl (lv_at hl 0 rfl) ?_
    refine r_getR (ci := 11) (C := RX11) (U := TX11) (N := 9) hx hb hts kX11_number_iX11 hown hK hw 0 (by decide) rfl rfl 3 (by decide) 4 rfl (hts _ kX11_number_f37) (fun _ h9 => h9) dX11_number_26 ?_
    refine lv_aload_n hx hb dX11_number_29 rfl (lv_at hl 0 rfl) ?_
    refine r_getR (ci := 11) (C := RX11) (U := TX11) (N := 9) hx hb hts kX11_number_iX11 hown hK hw 0 (by decide) rfl rfl 5 (by decide) 6 rfl (hts _ kX11_number_f51) (fun _ h9 => h9) dX11_number_30 ?_
    refine r_getR (ci := 7) (C := RX7) (U := TX7) (N := 4) hx hb hts kX11_number_iX7 hown hK hw 6 (by decide) rfl rfl 1 (by decide) 32 rfl (hts _ kX11_number_f171) (fun _ h9 => h9) dX11_number_33 ?_
    obtain ⟨y8, sg9, hq10, h2⟩ := bnd2_some h
    replace h := h2
    clear h2
    refine r_cVl (As := [.ref ((adr a g) 32)]) (rest := []) C hw 4 (by decide) (ci := 9) rfl rfl (mX9_numberOf_c32 l D T (adr a g7) lg H.size sg5 hq10) (cwV 1 hts gX11_number_X9_numberOf rfl rfl rfl (by decide +kernel) ⟨Nat.le_of_ble_eq_true rfl, Nat.le_of_ble_eq_true rfl⟩) rfl hl.1 rfl (Nat.le_of_ble_eq_true rfl) dX11_number_36 ⟨Nat.le_of_ble_eq_true rfl, Nat.le_of_ble_eq_true rfl⟩ (fun ad' H locs hp hw => ?_)
    subst hp
    refine W.widen (k := 2) (n := 8192) (by decide) (by decide) ?_
    cases h
    exact r_lret C hw ⟨_, rfl⟩ (by decide) (by decide) dX11_number_39
  · replace h := ite_t h c4
    refine lv_ldc2 hx hb hown (hts _ kX11_number_c113) dX11_number_14 ?_
    cases h
    exact r_lret C hw ⟨_, rfl⟩ (by decide) (by decide) dX11_number_17
theorem mX11_number (l : Launch) (D : va_G) (T : Nat → ClassId) (a g : Nat → Nat) (lg : Lg) (sz : Nat)   (sg : Sg) {ro : Int64} {so : Sg} (h : fX11_number sg = some (ro, so)) : Met l yX11_number wsX11_number rmX11_number (PreZ ZC D vwCl T (tysC T) (adr a g) sg lg true nwL [.ref ((adr a g) 0)] sz) (QL ZC D vwCl T (tysC T) (va_A (zwd ZC T (adr a g) sg lg) sz) (fun z => ∃ g' : Nat → Nat, z = adr a g') ro so lg) 2 8192 (va_A (zwd ZC T (adr a g) sg lg) sz) :=
  metZ [.ref ((adr a g) 0)] sz (by decide) rfl (Nat.le_of_ble_eq_true rfl) (fun p e s m below meth c ls C hw hl => tX11_number_0 C sg g _ _ _ hw hl h)
-- java/util/Arrays.fill([BB)V
def rmJ7_fill_031fb_c66 : Room := { frames := 0, cells := 0, slots := 0, locals := 0 }
def fJ7_fill_031fb_c66_5 (r5 : (Int32 × Int32 × Int32 × Sg) → Option (Sg)) (v1 : Int32) (v2 : Int32) (v3 : Int32) (sg : Sg) : Option (Sg) :=
  (if v3 ≤ v2 then some sg else gin v2 ((sg 99 66).toNatClampNeg) (lt (up2 sg 66 v2.toNatClampNeg v1.toInt8.toInt32) (fun sg3 => lt (v2 + (1 : Int32)) (fun x4 => r5 (v1, x4, v3, sg3)))))
set_option maxHeartbeats 4000000 in
set_option maxRecDepth 100000 in
theorem tJ7_fill_031fb_c66_5 (C : Cx p s m args meth c cJ7_fill_031fb 4 RJ7 wsJ7_fill_031fb none D vwCl (tysC T) A true nwL) {so : Sg} {r5 : (Int32 × Int32 × Int32 × Sg) → Option (Sg)} (hr5 : ∀ (v1 : Int32) (v2 : Int32) (v3 : Int32) (sg : Sg), r5 (v1, v2, v3, sg) = some so → ∀ (H : Heap) (locs : List Loc) (ls : Array Slot), WS ZC D vwCl T ad sg lg A s.heap H locs → lv_has ls 4 [(0, .ref (ad 66)), (1, .int v1), (2, .int v2), (3, .int v3)] → W p l e rmJ7_fill_031fb_c66 s m args below meth c H locs 0 0 (MQ below (QV ZC D vwCl T (tysC T) A (fun z => ad = z) so lg) args s 0 0 A) (F0 m 5 ls [])) : ∀ (v1 : Int32) (v2 : Int32) (v3 : Int32) (sg : Sg), ∀ (H : Heap) (locs : List Loc) (ls : Array Slot), WS ZC D vwCl T ad sg lg A s.heap H locs → lv_has ls 4 [(0, .ref (ad 66)), (1, .int v1), (2, .int v2), (3, .int v3)] → fJ7_fill_031fb_c66_5 r5 v1 v2 v3 sg = some so → W p l e rmJ7_fill_031fb_c66 s m args below meth c H locs 0 0 (MQ below (QV ZC D vwCl T (tysC T) A (fun z => ad = z) so lg) args s 0 0 A) (F0 m 5 ls []) := by
  obtain ⟨⟨hx, hb, hml, hown, hts⟩, hr, hlk, hK, hA, hsp⟩ := id C
  intro v1 v2 v3 sg H locs ls hw hl h
  unfold fJ7_fill_031fb_c66_5 at h
  refine lv_iload_n hx hb dJ7_fill_031fb_5 rfl (lv_at hl 2 rfl) ?_
  refine lv_iload_n hx hb dJ7_fill_031fb_6 rfl (lv_at hl 3 rfl) ?_
  refine lv_icmp_ge (tgt := 20) hx hb dJ7_fill_031fb_7 (by decide) (fun c1 => ?_) (fun c1 => ?_)
  · replace h := ite_t h c1
    cases h
    exact r_vret C hw rfl (by decide) (by decide) dJ7_fill_031fb_20
  · replace h := ite_f h c1
    refine lv_aload_n hx hb dJ7_fill_031fb_10 rfl (lv_at hl 0 rfl) ?_
    refine lv_iload_n hx hb dJ7_fill_031fb_11 rfl (lv_at hl 2 rfl) ?_
    refine lv_iload_n hx hb dJ7_fill_031fb_12 rfl (lv_at hl 1 rfl) ?_
    have hi2 := (gin_some h).1
    replace h := (gin_some h).2
    refine r_bast ZC_ok hx hb hK hw 66 1 ((sg 99 66).toNatClampNeg) (by decide) rfl rfl rfl hi2 dJ7_fill_031fb_13 (fun H locs sg3 esg3 hw => ?_)
    replace h := lt_get h sg3 esg3
    obtain ⟨x4, ex4⟩ : ∃ z : Int32, z = (v2 + (1 : Int32)) := ⟨_, rfl⟩
    replace h := lt_get h x4 ex4
    refine lv_iinc (v := x4) (lv' := [(2, .int x4), (0, .ref (ad 66)), (1, .int v1), (3, .int v3)]) hx hb dJ7_fill_031fb_14 hl (k := 2) rfl (by rw [ex4]; rfl) (by decide) rfl (fun ls hl => ?_)
    refine lv_goto (tgt := 5) hx hb dJ7_fill_031fb_17 (by decide) ?_
    exact hr5 v1 x4 v3 sg3 h _ _ _ hw (lv_sub hl [1, 2, 0, 3] rfl)
def LJ7_fill_031fb_c66_5  : (Int32 × Int32 × Int32 × Sg) → Option (Sg) := loop (fun rec z => fJ7_fill_031fb_c66_5 rec z.1 z.2.1 z.2.2.1 z.2.2.2)
theorem TJ7_fill_031fb_c66_5 (C : Cx p s m args meth c cJ7_fill_031fb 4 RJ7 wsJ7_fill_031fb none D vwCl (tysC T) A true nwL) {so : Sg}   : ∀ (v1 : Int32) (v2 : Int32) (v3 : Int32) (sg : Sg), LJ7_fill_031fb_c66_5 (v1, v2, v3, sg) = some so → ∀ (H : Heap) (locs : List Loc) (ls : Array Slot), WS ZC D vwCl T ad sg lg A s.heap H locs → lv_has ls 4 [(0, .ref (ad 66)), (1, .int v1), (2, .int v2), (3, .int v3)] → W p l e rmJ7_fill_031fb_c66 s m args below meth c H locs 0 0 (MQ below (QV ZC D vwCl T (tysC T) A (fun z => ad = z) so lg) args s 0 0 A) (F0 m 5 ls []) := by
  have key : ∀ z : (Int32 × Int32 × Int32 × Sg), LJ7_fill_031fb_c66_5  z = some so → ∀ (H : Heap) (locs : List Loc) (ls : Array Slot), WS ZC D vwCl T ad z.2.2.2 lg A s.heap H locs → lv_has ls 4 [(0, .ref (ad 66)), (1, .int z.1), (2, .int z.2.1), (3, .int z.2.2.1)] → W p l e rmJ7_fill_031fb_c66 s m args below meth c H locs 0 0 (MQ below (QV ZC D vwCl T (tysC T) A (fun z => ad = z) so lg) args s 0 0 A) (F0 m 5 ls []) := by
    intro z h
    unfold LJ7_fill_031fb_c66_5 at h
    exact loop_ind (fun rec z => fJ7_fill_031fb_c66_5 rec z.1 z.2.1 z.2.2.1 z.2.2.2) (y := so) (P := fun z => ∀ (H : Heap) (locs : List Loc) (ls : Array Slot), WS ZC D vwCl T ad z.2.2.2 lg A s.heap H locs → lv_has ls 4 [(0, .ref (ad 66)), (1, .int z.1), (2, .int z.2.1), (3, .int z.2.2.1)] → W p l e rmJ7_fill_031fb_c66 s m args below meth c H locs 0 0 (MQ below (QV ZC D vwCl T (tysC T) A (fun z => ad = z) so lg) args s 0 0 A) (F0 m 5 ls [])) (fun rec hrec z h H locs ls hw hl => tJ7_fill_031fb_c66_5 C  (fun v1 v2 v3 sg => hrec (v1, v2, v3, sg)) z.1 z.2.1 z.2.2.1 z.2.2.2 H locs ls hw hl h) z h
  exact fun v1 v2 v3 sg => key (v1, v2, v3, sg)
def fJ7_fill_031fb_c66  (v1 : Int32) (sg : Sg) : Option (Sg) :=
  lt (Int32.ofNat (sg 99 66).toNatClampNeg) (fun x1 => LJ7_fill_031fb_c66_5 (v1, (0 : Int32), x1, sg))
set_option maxHeartbeats 4000000 in
set_option maxRecDepth 100000 in
theorem tJ7_fill_031fb_c66_0 (C : Cx p s m args meth c cJ7_fill_031fb 4 RJ7 wsJ7_fill_031fb none D vwCl (tysC T) A true nwL) {so : Sg}   : ∀ (v1 : Int32) (sg : Sg), ∀ (H : Heap) (locs : List Loc) (ls : Array Slot), WS ZC D vwCl T ad sg lg A s.heap H locs → lv_has ls 4 [(0, .ref (ad 66)), (1, .int v1)] → fJ7_fill_031fb_c66 v1 sg = some so → W p l e rmJ7_fill_031fb_c66 s m args below meth c H locs 0 0 (MQ below (QV ZC D vwCl T (tysC T) A (fun z => ad = z) so lg) args s 0 0 A) (F0 m 0 ls []) := by
  obtain ⟨⟨hx, hb, hml, hown, hts⟩, hr, hlk, hK, hA, hsp⟩ := id C
  intro v1 sg H locs ls hw hl h
  unfold fJ7_fill_031fb_c66 at h
  refine lv_iconst (v := (0 : Int32)) hx hb dJ7_fill_031fb_0 (by decide) ?_
  refine lv_istore_n (lv' := [(2, .int (0 : Int32)), (0, .ref (ad 66)), (1, .int v1)]) hx hb dJ7_fill_031fb_1 rfl hl (by decide) rfl (fun ls hl => ?_)
  refine lv_aload_n hx hb dJ7_fill_031fb_2 rfl (lv_at hl 1 rfl) ?_
  refine r_alen hx hb hK hw 66 1 ((sg 99 66).toNatClampNeg) (by decide) 1 rfl (by decide) rfl rfl (v := (Int32.ofNat (sg 99 66).toNatClampNeg)) rfl dJ7_fill_031fb_3 ?_
  refine lv_topi (fun x1 ex1 => ?_)
  replace h := lt_get h x1 ex1
  refine lv_istore_n (lv' := [(3, .int x1), (2, .int (0 : Int32)), (0, .ref (ad 66)), (1, .int v1)]) hx hb dJ7_fill_031fb_4 rfl hl (by decide) rfl (fun ls hl => ?_)
  exact TJ7_fill_031fb_c66_5 C v1 (0 : Int32) x1 sg h _ _ _ hw (lv_sub hl [2, 3, 1, 0] rfl)
theorem mJ7_fill_031fb_c66 (l : Launch) (D : va_G) (T : Nat → ClassId) (ad : Nat → Nat) (lg : Lg) (sz : Nat)   (v1 : Int32) (sg : Sg) {so : Sg} (h : fJ7_fill_031fb_c66 v1 sg = some so) : Met l yJ7_fill_031fb wsJ7_fill_031fb rmJ7_fill_031fb_c66 (PreZ ZC D vwCl T (tysC T) ad sg lg true nwL [.ref (ad 66), .int v1] sz) (QV ZC D vwCl T (tysC T) (va_A (zwd ZC T ad sg lg) sz) (fun z => ad = z) so lg) 0 0 (va_A (zwd ZC T ad sg lg) sz) :=
  metZ [.ref (ad 66), .int v1] sz (by decide) rfl (Nat.le_of_ble_eq_true rfl) (fun p e s m below meth c ls C hw hl => tJ7_fill_031fb_c66_0 C v1 sg _ _ _ hw hl h)
-- java/util/Arrays.fill([II)V
def rmJ7_fill_53178_c24 : Room := { frames := 0, cells := 0, slots := 0, locals := 0 }
def fJ7_fill_53178_c24_5 (r5 : (Int32 × Int32 × Int32 × Sg) → Option (Sg)) (v1 : Int32) (v2 : Int32) (v3 : Int32) (sg : Sg) : Option (Sg) :=
  (if v3 ≤ v2 then some sg else gin v2 12 (lt (up2 sg 24 v2.toNatClampNeg v1) (fun sg3 => lt (v2 + (1 : Int32)) (fun x4 => r5 (v1, x4, v3, sg3)))))
set_option maxHeartbeats 4000000 in
set_option maxRecDepth 100000 in
theorem tJ7_fill_53178_c24_5 (C : Cx p s m args meth c cJ7_fill_53178 4 RJ7 wsJ7_fill_53178 none D vwCl (tysC T) A true nwL) {so : Sg} {r5 : (Int32 × Int32 × Int32 × Sg) → Option (Sg)} (hr5 : ∀ (v1 : Int32) (v2 : Int32) (v3 : Int32) (sg : Sg), r5 (v1, v2, v3, sg) = some so → ∀ (H : Heap) (locs : List Loc) (ls : Array Slot), WS ZC D vwCl T ad sg lg A s.heap H locs → lv_has ls 4 [(0, .ref (ad 24)), (1, .int v1), (2, .int v2), (3, .int v3)] → W p l e rmJ7_fill_53178_c24 s m args below meth c H locs 0 0 (MQ below (QV ZC D vwCl T (tysC T) A (fun z => ad = z) so lg) args s 0 0 A) (F0 m 5 ls [])) : ∀ (v1 : Int32) (v2 : Int32) (v3 : Int32) (sg : Sg), ∀ (H : Heap) (locs : List Loc) (ls : Array Slot), WS ZC D vwCl T ad sg lg A s.heap H locs → lv_has ls 4 [(0, .ref (ad 24)), (1, .int v1), (2, .int v2), (3, .int v3)] → fJ7_fill_53178_c24_5 r5 v1 v2 v3 sg = some so → W p l e rmJ7_fill_53178_c24 s m args below meth c H locs 0 0 (MQ below (QV ZC D vwCl T (tysC T) A (fun z => ad = z) so lg) args s 0 0 A) (F0 m 5 ls []) := by
  obtain ⟨⟨hx, hb, hml, hown, hts⟩, hr, hlk, hK, hA, hsp⟩ := id C
  intro v1 v2 v3 sg H locs ls hw hl h
  unfold fJ7_fill_53178_c24_5 at h
  refine lv_iload_n hx hb dJ7_fill_53178_5 rfl (lv_at hl 2 rfl) ?_
  refine lv_iload_n hx hb dJ7_fill_53178_6 rfl (lv_at hl 3 rfl) ?_
  refine lv_icmp_ge (tgt := 20) hx hb dJ7_fill_53178_7 (by decide) (fun c1 => ?_) (fun c1 => ?_)
  · replace h := ite_t h c1
    cases h
    exact r_vret C hw rfl (by decide) (by decide) dJ7_fill_53178_20
  · replace h := ite_f h c1
    refine lv_aload_n hx hb dJ7_fill_53178_10 rfl (lv_at hl 0 rfl) ?_
    refine lv_iload_n hx hb dJ7_fill_53178_11 rfl (lv_at hl 2 rfl) ?_
    refine lv_iload_n hx hb dJ7_fill_53178_12 rfl (lv_at hl 1 rfl) ?_
    have hi2 := (gin_some h).1
    replace h := (gin_some h).2
    refine r_iast ZC_ok hx hb hK hw 24 0 12 (by decide) rfl rfl rfl hi2 dJ7_fill_53178_13 (fun H locs sg3 esg3 hw => ?_)
    replace h := lt_get h sg3 esg3
    obtain ⟨x4, ex4⟩ : ∃ z : Int32, z = (v2 + (1 : Int32)) := ⟨_, rfl⟩
    replace h := lt_get h x4 ex4
    refine lv_iinc (v := x4) (lv' := [(2, .int x4), (0, .ref (ad 24)), (1, .int v1), (3, .int v3)]) hx hb dJ7_fill_53178_14 hl (k := 2) rfl (by rw [ex4]; rfl) (by decide) rfl (fun ls hl => ?_)
    refine lv_goto (tgt := 5) hx hb dJ7_fill_53178_17 (by decide) ?_
    exact hr5 v1 x4 v3 sg3 h _ _ _ hw (lv_sub hl [1, 2, 0, 3] rfl)
def LJ7_fill_53178_c24_5  : (Int32 × Int32 × Int32 × Sg) → Option (Sg) := loop (fun rec z => fJ7_fill_53178_c24_5 rec z.1 z.2.1 z.2.2.1 z.2.2.2)
theorem TJ7_fill_53178_c24_5 (C : Cx p s m args meth c cJ7_fill_53178 4 RJ7 wsJ7_fill_53178 none D vwCl (tysC T) A true nwL) {so : Sg}   : ∀ (v1 : Int32) (v2 : Int32) (v3 : Int32) (sg : Sg), LJ7_fill_53178_c24_5 (v1, v2, v3, sg) = some so → ∀ (H : Heap) (locs : List Loc) (ls : Array Slot), WS ZC D vwCl T ad sg lg A s.heap H locs → lv_has ls 4 [(0, .ref (ad 24)), (1, .int v1), (2, .int v2), (3, .int v3)] → W p l e rmJ7_fill_53178_c24 s m args below meth c H locs 0 0 (MQ below (QV ZC D vwCl T (tysC T) A (fun z => ad = z) so lg) args s 0 0 A) (F0 m 5 ls []) := by
  have key : ∀ z : (Int32 × Int32 × Int32 × Sg), LJ7_fill_53178_c24_5  z = some so → ∀ (H : Heap) (locs : List Loc) (ls : Array Slot), WS ZC D vwCl T ad z.2.2.2 lg A s.heap H locs → lv_has ls 4 [(0, .ref (ad 24)), (1, .int z.1), (2, .int z.2.1), (3, .int z.2.2.1)] → W p l e rmJ7_fill_53178_c24 s m args below meth c H locs 0 0 (MQ below (QV ZC D vwCl T (tysC T) A (fun z => ad = z) so lg) args s 0 0 A) (F0 m 5 ls []) := by
    intro z h
    unfold LJ7_fill_53178_c24_5 at h
    exact loop_ind (fun rec z => fJ7_fill_53178_c24_5 rec z.1 z.2.1 z.2.2.1 z.2.2.2) (y := so) (P := fun z => ∀ (H : Heap) (locs : List Loc) (ls : Array Slot), WS ZC D vwCl T ad z.2.2.2 lg A s.heap H locs → lv_has ls 4 [(0, .ref (ad 24)), (1, .int z.1), (2, .int z.2.1), (3, .int z.2.2.1)] → W p l e rmJ7_fill_53178_c24 s m args below meth c H locs 0 0 (MQ below (QV ZC D vwCl T (tysC T) A (fun z => ad = z) so lg) args s 0 0 A) (F0 m 5 ls [])) (fun rec hrec z h H locs ls hw hl => tJ7_fill_53178_c24_5 C  (fun v1 v2 v3 sg => hrec (v1, v2, v3, sg)) z.1 z.2.1 z.2.2.1 z.2.2.2 H locs ls hw hl h) z h
  exact fun v1 v2 v3 sg => key (v1, v2, v3, sg)
def fJ7_fill_53178_c24  (v1 : Int32) (sg : Sg) : Option (Sg) :=
  LJ7_fill_53178_c24_5 (v1, (0 : Int32), (12 : Int32), sg)
set_option maxHeartbeats 4000000 in
set_option maxRecDepth 100000 in
theorem tJ7_fill_53178_c24_0 (C : Cx p s m args meth c cJ7_fill_53178 4 RJ7 wsJ7_fill_53178 none D vwCl (tysC T) A true nwL) {so : Sg}   : ∀ (v1 : Int32) (sg : Sg), ∀ (H : Heap) (locs : List Loc) (ls : Array Slot), WS ZC D vwCl T ad sg lg A s.heap H locs → lv_has ls 4 [(0, .ref (ad 24)), (1, .int v1)] → fJ7_fill_53178_c24 v1 sg = some so → W p l e rmJ7_fill_53178_c24 s m args below meth c H locs 0 0 (MQ below (QV ZC D vwCl T (tysC T) A (fun z => ad = z) so lg) args s 0 0 A) (F0 m 0 ls []) := by
  obtain ⟨⟨hx, hb, hml, hown, hts⟩, hr, hlk, hK, hA, hsp⟩ := id C
  intro v1 sg H locs ls hw hl h
  unfold fJ7_fill_53178_c24 at h
  refine lv_iconst (v := (0 : Int32)) hx hb dJ7_fill_53178_0 (by decide) ?_
  refine lv_istore_n (lv' := [(2, .int (0 : Int32)), (0, .ref (ad 24)), (1, .int v1)]) hx hb dJ7_fill_53178_1 rfl hl (by decide) rfl (fun ls hl => ?_)
  refine lv_aload_n hx hb dJ7_fill_53178_2 rfl (lv_at hl 1 rfl) ?_
  refine r_alen hx hb hK hw 24 0 12 (by decide) 0 rfl (by decide) rfl rfl (v := (12 : Int32)) rfl dJ7_fill_53178_3 ?_
  refine lv_istore_n (lv' := [(3, .int (12 : Int32)), (2, .int (0 : Int32)), (0, .ref (ad 24)), (1, .int v1)]) hx hb dJ7_fill_53178_4 rfl hl (by decide) rfl (fun ls hl => ?_)
  exact TJ7_fill_53178_c24_5 C v1 (0 : Int32) (12 : Int32) sg h _ _ _ hw (lv_sub hl [2, 3, 1, 0] rfl)
theorem mJ7_fill_53178_c24 (l : Launch) (D : va_G) (T : Nat → ClassId) (ad : Nat → Nat) (lg : Lg) (sz : Nat)   (v1 : Int32) (sg : Sg) {so : Sg} (h : fJ7_fill_53178_c24 v1 sg = some so) : Met l yJ7_fill_53178 wsJ7_fill_53178 rmJ7_fill_53178_c24 (PreZ ZC D vwCl T (tysC T) ad sg lg true nwL [.ref (ad 24), .int v1] sz) (QV ZC D vwCl T (tysC T) (va_A (zwd ZC T ad sg lg) sz) (fun z => ad = z) so lg) 0 0 (va_A (zwd ZC T ad sg lg) sz) :=
  metZ [.ref (ad 24), .int v1] sz (by decide) rfl (Nat.le_of_ble_eq_true rfl) (fun p e s m below meth c ls C hw hl => tJ7_fill_53178_c24_0 C v1 sg _ _ _ hw hl h)
-- PeckYard$Orders.agree()V
def rmX9_agree : Room := { frames := 3, cells := 1, slots := 4096, locals := 68 }
theorem kX9_agree_f15 : Cond.fieldLink RX9 15 "PeckYard$Orders" "agreedAt" "I" ∈ wsX9_agree := by decide +kernel
theorem kX9_agree_iX9 : ∀ w ∈ u_ws RX9 TX9 11, w ∈ wsX9_agree := by decide +kernel
theorem kX9_agree_f38 : Cond.fieldLink RX9 38 "PeckYard$Orders" "muster" "LPeckYard$Muster;" ∈ wsX9_agree := by decide +kernel
theorem kX9_agree_f54 : Cond.fieldLink RX9 54 "PeckYard$Muster" "stamp" "I" ∈ wsX9_agree := by decide +kernel
theorem kX9_agree_iX8 : ∀ w ∈ u_ws RX8 TX8 10, w ∈ wsX9_agree := by decide +kernel
theorem kX9_agree_f31 : Cond.fieldLink RX9 31 "PeckYard$Orders" "isOnWay" "[B" ∈ wsX9_agree := by decide +kernel
theorem kX9_agree_f35 : Cond.fieldLink RX9 35 "PeckYard$Orders" "mayBeBelow" "[I" ∈ wsX9_agree := by decide +kernel
theorem kX9_agree_f82 : Cond.fieldLink RX9 82 "PeckYard$Muster" "size" "I" ∈ wsX9_agree := by decide +kernel
theorem kX9_agree_ini_X11 : Cond.initialized "PeckYard" ∈ wsX9_agree := by decide +kernel
theorem kX9_agree_s85 : Cond.static yX11_isIn ∈ wsX9_agree := by decide +kernel
theorem kX9_agree_arB : Cond.arrayClass .byte ∈ wsX9_agree := by decide +kernel
def fX9_agree_171 (r77 : (Int32 × Int32 × Sg) → Option (Sg)) (v1 : Int32) (v2 : Int32) (sg : Sg) : Option (Sg) :=
  lt (v2 + (1 : Int32)) (fun x1 => r77 (v1, x1, sg))
set_option maxHeartbeats 4000000 in
set_option maxRecDepth 100000 in
theorem tX9_agree_171 (C : Cx p s m args meth c cX9_agree 6 RX9 wsX9_agree none D vwCl (tysC T) A true nwL) {so : Sg} {r77 : (Int32 × Int32 × Sg) → Option (Sg)} (hr77 : ∀ (v1 : Int32) (v2 : Int32) (sg : Sg), r77 (v1, v2, sg) = some so → ∀ (g : Nat → Nat) (H : Heap) (locs : List Loc) (ls : Array Slot), WS ZC D vwCl T (adr a g) sg lg A s.heap H locs → lv_has ls 6 [(0, .ref ((adr a g) 4)), (1, .int v1), (2, .int v2)] → W p l e rmX9_agree s m args below meth c H locs 1 4096 (MQ below (QV ZC D vwCl T (tysC T) A (fun z => ∃ g' : Nat → Nat, z = adr a g') so lg) args s 1 4096 A) (F0 m 77 ls [])) : ∀ (v1 : Int32) (v2 : Int32) (sg : Sg), ∀ (g : Nat → Nat) (H : Heap) (locs : List Loc) (ls : Array Slot), WS ZC D vwCl T (adr a g) sg lg A s.heap H locs → lv_has ls 6 [(0, .ref ((adr a g) 4)), (1, .int v1), (2, .int v2)] → fX9_agree_171 r77 v1 v2 sg = some so → W p l e rmX9_agree s m args below meth c H locs 1 4096 (MQ below (QV ZC D vwCl T (tysC T) A (fun z => ∃ g' : Nat → Nat, z = adr a g') so lg) args s 1 4096 A) (F0 m 171 ls []) := by
  obtain ⟨⟨hx, hb, hml, hown, hts⟩, hr, hlk, hK, hA, hsp⟩ := id C
  intro v1 v2 sg g H locs ls hw hl h
  unfold fX9_agree_171 at h
  obtain ⟨x1, ex1⟩ : ∃ z : Int32, z = (v2 + (1 : Int32)) := ⟨_, rfl⟩
  replace h := lt_get h x1 ex1
  refine lv_iinc (v := x1) (lv' := [(2, .int x1), (0, .ref ((adr a g) 4)), (1, .int v1)]) hx hb dX9_agree_171 hl (k := 2) rfl (by rw [ex1]; rfl) (by decide) rfl (fun ls hl => ?_)
  refine lv_goto (tgt := 77) hx hb dX9_agree_174 (by decide) ?_
  exact hr77 v1 x1 sg h g _ _ _ hw (lv_sub hl [1, 2, 0] rfl)
def fX9_agree_165 (r77 : (Int32 × Int32 × Sg) → Option (Sg)) (r105 : (Int32 × Int32 × Int32 × Int32 × Sg) → Option (Sg)) (v1 : Int32) (v2 : Int32) (v3 : Int32) (v4 : Int32) (sg : Sg) : Option (Sg) :=
  lt (v4 + (1 : Int32)) (fun x1 => r105 (v1, v2, v3, x1, sg))
set_option maxHeartbeats 4000000 in
set_option maxRecDepth 100000 in
theorem tX9_agree_165 (C : Cx p s m args meth c cX9_agree 6 RX9 wsX9_agree none D vwCl (tysC T) A true nwL) {so : Sg} {r77 : (Int32 × Int32 × Sg) → Option (Sg)} {r105 : (Int32 × Int32 × Int32 × Int32 × Sg) → Option (Sg)} (hr77 : ∀ (v1 : Int32) (v2 : Int32) (sg : Sg), r77 (v1, v2, sg) = some so → ∀ (g : Nat → Nat) (H : Heap) (locs : List Loc) (ls : Array Slot), WS ZC D vwCl T (adr a g) sg lg A s.heap H locs → lv_has ls 6 [(0, .ref ((adr a g) 4)), (1, .int v1), (2, .int v2)] → W p l e rmX9_agree s m args below meth c H locs 1 4096 (MQ below (QV ZC D vwCl T (tysC T) A (fun z => ∃ g' : Nat → Nat, z = adr a g') so lg) args s 1 4096 A) (F0 m 77 ls [])) (hr105 : ∀ (v1 : Int32) (v2 : Int32) (v3 : Int32) (v4 : Int32) (sg : Sg), r105 (v1, v2, v3, v4, sg) = some so → ∀ (g : Nat → Nat) (H : Heap) (locs : List Loc) (ls : Array Slot), WS ZC D vwCl T (adr a g) sg lg A s.heap H locs → lv_has ls 6 [(0, .ref ((adr a g) 4)), (1, .int v1), (2, .int v2), (3, .int v3), (4, .int v4)] → W p l e rmX9_agree s m args below meth c H locs 1 4096 (MQ below (QV ZC D vwCl T (tysC T) A (fun z => ∃ g' : Nat → Nat, z = adr a g') so lg) args s 1 4096 A) (F0 m 105 ls [])) : ∀ (v1 : Int32) (v2 : Int32) (v3 : Int32) (v4 : Int32) (sg : Sg), ∀ (g : Nat → Nat) (H : Heap) (locs : List Loc) (ls : Array Slot), WS ZC D vwCl T (adr a g) sg lg A s.heap H locs → lv_has ls 6 [(0, .ref ((adr a g) 4)), (1, .int v1), (2, .int v2), (3, .int v3), (4, .int v4)] → fX9_agree_165 r77 r105 v1 v2 v3 v4 sg = some so → W p l e rmX9_agree s m args below meth c H locs 1 4096 (MQ below (QV ZC D vwCl T (tysC T) A (fun z => ∃ g' : Nat → Nat, z = adr a g') so lg) args s 1 4096 A) (F0 m 165 ls []) := by
  obtain ⟨⟨hx, hb, hml, hown, hts⟩, hr, hlk, hK, hA, hsp⟩ := id C
  intro v1 v2 v3 v4 sg g H locs ls hw hl h
  unfold fX9_agree_165 at h
  obtain ⟨x1, ex1⟩ : ∃ z : Int32, z = (v4 + (1 : Int32)) := ⟨_, rfl⟩
  replace h := lt_get h x1 ex1
  refine lv_iinc (v := x1) (lv' := [(4, .int x1), (0, .ref ((adr a g) 4)), (1, .int v1), (2, .int v2), (3, .int v3)]) hx hb dX9_agree_165 hl (k := 4) rfl (by rw [ex1]; rfl) (by decide) rfl (fun ls hl => ?_)
  refine lv_goto (tgt := 105) hx hb dX9_agree_168 (by decide) ?_
  exact hr105 v1 v2 v3 x1 sg h g _ _ _ hw (lv_sub hl [1, 2, 3, 4, 0] rfl)
def fX9_agree_105 (r77 : (Int32 × Int32 × Sg) → Option (Sg)) (r105 : (Int32 × Int32 × Int32 × Int32 × Sg) → Option (Sg)) (v1 : Int32) (v2 : Int32) (v3 : Int32) (v4 : Int32) (sg : Sg) : Option (Sg) :=
  (if (sg 3 2) ≤ v4 then fX9_agree_171 r77 v1 v2 sg else (if (v3 >>> (v4 &&& 31)) = 0 then fX9_agree_171 r77 v1 v2 sg else bnd2 (fX11_isIn v3 v4 sg) (fun y3 sg4 => (if y3 = 0 then fX9_agree_165 r77 r105 v1 v2 v3 v4 sg4 else lt (v2 ||| ((1 : Int32) <<< (v4 &&& 31))) (fun x8 => gin x8 ((sg4 99 66).toNatClampNeg) (lt (up2 sg4 66 x8.toNatClampNeg ((1 : Int32).toInt8.toInt32)) (fun sg10 => gin v4 12 (lt ((sg10 24 v4.toNatClampNeg) ||| (v1 &&& (x8 ^^^ (-1 : Int32)))) (fun x12 => gin v4 12 (lt (up2 sg10 24 v4.toNatClampNeg x12) (fun sg14 => fX9_agree_165 r77 r105 v1 v2 v3 v4 sg14)))))))))))
set_option maxHeartbeats 4000000 in
set_option maxRecDepth 100000 in
theorem tX9_agree_105 (C : Cx p s m args meth c cX9_agree 6 RX9 wsX9_agree none D vwCl (tysC T) A true nwL) {so : Sg} {r77 : (Int32 × Int32 × Sg) → Option (Sg)} {r105 : (Int32 × Int32 × Int32 × Int32 × Sg) → Option (Sg)} (hr77 : ∀ (v1 : Int32) (v2 : Int32) (sg : Sg), r77 (v1, v2, sg) = some so → ∀ (g : Nat → Nat) (H : Heap) (locs : List Loc) (ls : Array Slot), WS ZC D vwCl T (adr a g) sg lg A s.heap H locs → lv_has ls 6 [(0, .ref ((adr a g) 4)), (1, .int v1), (2, .int v2)] → W p l e rmX9_agree s m args below meth c H locs 1 4096 (MQ below (QV ZC D vwCl T (tysC T) A (fun z => ∃ g' : Nat → Nat, z = adr a g') so lg) args s 1 4096 A) (F0 m 77 ls [])) (hr105 : ∀ (v1 : Int32) (v2 : Int32) (v3 : Int32) (v4 : Int32) (sg : Sg), r105 (v1, v2, v3, v4, sg) = some so → ∀ (g : Nat → Nat) (H : Heap) (locs : List Loc) (ls : Array Slot), WS ZC D vwCl T (adr a g) sg lg A s.heap H locs → lv_has ls 6 [(0, .ref ((adr a g) 4)), (1, .int v1), (2, .int v2), (3, .int v3), (4, .int v4)] → W p l e rmX9_agree s m args below meth c H locs 1 4096 (MQ below (QV ZC D vwCl T (tysC T) A (fun z => ∃ g' : Nat → Nat, z = adr a g') so lg) args s 1 4096 A) (F0 m 105 ls [])) : ∀ (v1 : Int32) (v2 : Int32) (v3 : Int32) (v4 : Int32) (sg : Sg), ∀ (g : Nat → Nat) (H : Heap) (locs : List Loc) (ls : Array Slot), WS ZC D vwCl T (adr a g) sg lg A s.heap H locs → lv_has ls 6 [(0, .ref ((adr a g) 4)), (1, .int v1), (2, .int v2), (3, .int v3), (4, .int v4)] → fX9_agree_105 r77 r105 v1 v2 v3 v4 sg = some so → W p l e rmX9_agree s m args below meth c H locs 1 4096 (MQ below (QV ZC D vwCl T (tysC T) A (fun z => ∃ g' : Nat → Nat, z = adr a g') so lg) args s 1 4096 A) (F0 m 105 ls []) := by
  obtain ⟨⟨hx, hb, hml, hown, hts⟩, hr, hlk, hK, hA, hsp⟩ := id C
  intro v1 v2 v3 v4 sg g H locs ls hw hl h
  unfold fX9_agree_105 at h
  refine lv_iload hx hb dX9_agree_105 (lv_at hl 4 rfl) ?_
  refine lv_aload_n hx hb dX9_agree_107 rfl (lv_at hl 0 rfl) ?_
  refine r_getR (ci := 9) (C := RX9) (U := TX9) (N := 11) hx hb hts kX9_agree_iX9 hown hK hw 4 (by decide) rfl rfl 0 (by decide) 3 rfl (hts _ kX9_agree_f38) (fun _ h9 => h9) dX9_agree_108 ?_
  refine r_getI (ci := 8) (C := RX8) (U := TX8) (N := 10) hx hb hts kX9_agree_iX8 hown hK hw 3 (by decide) rfl rfl 2 (by decide) rfl (hts _ kX9_agree_f82) (fun _ h9 => h9) dX9_agree_111 ?_
  refine lv_icmp_ge (tgt := 171) hx hb dX9_agree_114 (by decide) (fun c1 => ?_) (fun c1 => ?_)
  · replace h := ite_t h c1
    exact tX9_agree_171 C hr77 v1 v2 sg g _ _ _ hw (lv_sub hl [0, 1, 2] rfl) h
  · replace h := ite_f h c1
    refine lv_iload_n hx hb dX9_agree_117 rfl (lv_at hl 3 rfl) ?_
    refine lv_iload hx hb dX9_agree_118 (lv_at hl 4 rfl) ?_
    refine lv_ishr hx hb dX9_agree_120 ?_
    refine lv_if_eq (tgt := 171) hx hb dX9_agree_121 (by decide) (fun c2 => ?_) (fun c2 => ?_)
    · replace h := ite_t h c2
      exact tX9_agree_171 C hr77 v1 v2 sg g _ _ _ hw (lv_sub hl [0, 1, 2] rfl) h
    · replace h := ite_f h c2
      refine lv_iload_n hx hb dX9_agree_124 rfl (lv_at hl 3 rfl) ?_
      refine lv_iload hx hb dX9_agree_125 (lv_at hl 4 rfl) ?_
      obtain ⟨y3, sg4, hq5, h2⟩ := bnd2_some h
      replace h := h2
      clear h2
      obtain ⟨-, -, hmt6⟩ := hsp rfl
      refine r_cNi (As := [.int v3, .int v4]) (rest := []) C hw (mX11_isIn l D T (adr a g) lg H.size v3 v4 sg hq5) ⟨va_cnB (host := "PeckYard") 2 hts gX9_agree_X11_isIn_n85 rfl rfl rfl (hmt6 _ nw_X9_85) (hts _ kX9_agree_ini_X11) (by decide +kernel) ⟨Nat.le_of_ble_eq_true rfl, Nat.le_of_ble_eq_true rfl⟩, (hts _ kX9_agree_s85), trivial⟩ rfl hl.1 rfl (Nat.le_of_ble_eq_true rfl) dX9_agree_127 ⟨Nat.le_of_ble_eq_true rfl, Nat.le_of_ble_eq_true rfl⟩ (fun ad' H locs hp hw => ?_)
      subst hp
      refine W.widen (k := 1) (n := 4096) (by decide) (by decide) ?_
      refine lv_if_eq (tgt := 165) hx hb dX9_agree_130 (by decide) (fun c7 => ?_) (fun c7 => ?_)
      · replace h := ite_t h c7
        exact tX9_agree_165 C hr77 hr105 v1 v2 v3 v4 sg4 g _ _ _ hw (lv_sub hl [0, 1, 2, 3, 4] rfl) h
      · replace h := ite_f h c7
        refine lv_iload_n hx hb dX9_agree_133 rfl (lv_at hl 2 rfl) ?_
        refine lv_iconst (v := (1 : Int32)) hx hb dX9_agree_134 (by decide) ?_
        refine lv_iload hx hb dX9_agree_135 (lv_at hl 4 rfl) ?_
        refine lv_ishl hx hb dX9_agree_137 ?_
        refine lv_ior hx hb dX9_agree_138 ?_
        refine lv_topi (fun x8 ex8 => ?_)
        replace h := lt_get h x8 ex8
        refine lv_istore (lv' := [(5, .int x8), (0, .ref ((adr a g) 4)), (1, .int v1), (2, .int v2), (3, .int v3), (4, .int v4)]) hx hb dX9_agree_139 hl (by decide) rfl (fun ls hl => ?_)
        refine lv_aload_n hx hb dX9_agree_141 rfl (lv_at hl 1 rfl) ?_
        refine r_getR (ci := 9) (C := RX9) (U := TX9) (N := 11) hx hb hts kX9_agree_iX9 hown hK hw 4 (by decide) rfl rfl 9 (by decide) 66 rfl (hts _ kX9_agree_f31) (fun _ h9 => h9) dX9_agree_142 ?_
        refine lv_iload hx hb dX9_agree_145 (lv_at hl 0 rfl) ?_
        refine lv_iconst (v := (1 : Int32)) hx hb dX9_agree_147 (by decide) ?_
        have hi9 := (gin_some h).1
        replace h := (gin_some h).2
        refine r_bast ZC_ok hx hb hK hw 66 1 ((sg4 99 66).toNatClampNeg) (by decide) rfl rfl rfl hi9 dX9_agree_148 (fun H locs sg10 esg10 hw => ?_)
        replace h := lt_get h sg10 esg10
        refine lv_aload_n hx hb dX9_agree_149 rfl (lv_at hl 1 rfl) ?_
        refine r_getR (ci := 9) (C := RX9) (U := TX9) (N := 11) hx hb hts kX9_agree_iX9 hown hK hw 4 (by decide) rfl rfl 10 (by decide) 24 rfl (hts _ kX9_agree_f35) (fun _ h9 => h9) dX9_agree_150 ?_
        refine lv_iload hx hb dX9_agree_153 (lv_at hl 5 rfl) ?_
        refine lv_dup2_11 hx hb dX9_agree_155 rfl rfl ?_
        have hi11 := (gin_some h).1
        replace h := (gin_some h).2
        refine r_iald hx hb hK hw 24 0 12 (by decide) rfl rfl rfl hi11 dX9_agree_156 ?_
        refine lv_iload_n hx hb dX9_agree_157 rfl (lv_at hl 2 rfl) ?_
        refine lv_iload hx hb dX9_agree_158 (lv_at hl 0 rfl) ?_
        refine lv_iconst (v := (-1 : Int32)) hx hb dX9_agree_160 (by decide) ?_
        refine lv_ixor hx hb dX9_agree_161 ?_
        refine lv_iand hx hb dX9_agree_162 ?_
        refine lv_ior hx hb dX9_agree_163 ?_
        refine lv_topi (fun x12 ex12 => ?_)
        replace h := lt_get h x12 ex12
        have hi13 := (gin_some h).1
        replace h := (gin_some h).2
        refine r_iast ZC_ok hx hb hK hw 24 0 12 (by decide) rfl rfl rfl hi13 dX9_agree_164 (fun H locs sg14 esg14 hw => ?_)
        replace h := lt_get h sg14 esg14
        exact tX9_agree_165 C hr77 hr105 v1 v2 v3 v4 sg14 g _ _ _ hw (lv_sub hl [1, 2, 3, 4, 5] rfl) h
def LX9_agree_105 (r77 : (Int32 × Int32 × Sg) → Option (Sg)) : (Int32 × Int32 × Int32 × Int32 × Sg) → Option (Sg) := loop (fun rec z => fX9_agree_105 r77 rec z.1 z.2.1 z.2.2.1 z.2.2.2.1 z.2.2.2.2)
theorem TX9_agree_105 (C : Cx p s m args meth c cX9_agree 6 RX9 wsX9_agree none D vwCl (tysC T) A true nwL) {so : Sg} {r77 : (Int32 × Int32 × Sg) → Option (Sg)} (hr77 : ∀ (v1 : Int32) (v2 : Int32) (sg : Sg), r77 (v1, v2, sg) = some so → ∀ (g : Nat → Nat) (H : Heap) (locs : List Loc) (ls : Array Slot), WS ZC D vwCl T (adr a g) sg lg A s.heap H locs → lv_has ls 6 [(0, .ref ((adr a g) 4)), (1, .int v1), (2, .int v2)] → W p l e rmX9_agree s m args below meth c H locs 1 4096 (MQ below (QV ZC D vwCl T (tysC T) A (fun z => ∃ g' : Nat → Nat, z = adr a g') so lg) args s 1 4096 A) (F0 m 77 ls [])) : ∀ (v1 : Int32) (v2 : Int32) (v3 : Int32) (v4 : Int32) (sg : Sg), LX9_agree_105 r77 (v1, v2, v3, v4, sg) = some so → ∀ (g : Nat → Nat) (H : Heap) (locs : List Loc) (ls : Array Slot), WS ZC D vwCl T (adr a g) sg lg A s.heap H locs → lv_has ls 6 [(0, .ref ((adr a g) 4)), (1, .int v1), (2, .int v2), (3, .int v3), (4, .int v4)] → W p l e rmX9_agree s m args below meth c H locs 1 4096 (MQ below (QV ZC D vwCl T (tysC T) A (fun z => ∃ g' : Nat → Nat, z = adr a g') so lg) args s 1 4096 A) (F0 m 105 ls []) := by
  have key : ∀ z : (Int32 × Int32 × Int32 × Int32 × Sg), LX9_agree_105 r77 z = some so → ∀ (g : Nat → Nat) (H : Heap) (locs : List Loc) (ls : Array Slot), WS ZC D vwCl T (adr a g) z.2.2.2.2 lg A s.heap H locs → lv_has ls 6 [(0, .ref ((adr a g) 4)), (1, .int z.1), (2, .int z.2.1), (3, .int z.2.2.1), (4, .int z.2.2.2.1)] → W p l e rmX9_agree s m args below meth c H locs 1 4096 (MQ below (QV ZC D vwCl T (tysC T) A (fun z => ∃ g' : Nat → Nat, z = adr a g') so lg) args s 1 4096 A) (F0 m 105 ls []) := by
    intro z h
    unfold LX9_agree_105 at h
    exact loop_ind (fun rec z => fX9_agree_105 r77 rec z.1 z.2.1 z.2.2.1 z.2.2.2.1 z.2.2.2.2) (y := so) (P := fun z => ∀ (g : Nat → Nat) (H : Heap) (locs : List Loc) (ls : Array Slot), WS ZC D vwCl T (adr a g) z.2.2.2.2 lg A s.heap H locs → lv_has ls 6 [(0, .ref ((adr a g) 4)), (1, .int z.1), (2, .int z.2.1), (3, .int z.2.2.1), (4, .int z.2.2.2.1)] → W p l e rmX9_agree s m args below meth c H locs 1 4096 (MQ below (QV ZC D vwCl T (tysC T) A (fun z => ∃ g' : Nat → Nat, z = adr a g') so lg) args s 1 4096 A) (F0 m 105 ls [])) (fun rec hrec z h g H locs ls hw hl => tX9_agree_105 C hr77 (fun v1 v2 v3 v4 sg => hrec (v1, v2, v3, v4, sg)) z.1 z.2.1 z.2.2.1 z.2.2.2.1 z.2.2.2.2 g H locs ls hw hl h) z h
  exact fun v1 v2 v3 v4 sg => key (v1, v2, v3, v4, sg)
def fX9_agree_101 (r77 : (Int32 × Int32 × Sg) → Option (Sg)) (v1 : Int32) (v2 : Int32) (w0 : Int32) (sg : Sg) : Option (Sg) :=
  LX9_agree_105 r77 (v1, v2, w0, (0 : Int32), sg)
set_option maxHeartbeats 4000000 in
set_option maxRecDepth 100000 in
theorem tX9_agree_101 (C : Cx p s m args meth c cX9_agree 6 RX9 wsX9_agree none D vwCl (tysC T) A true nwL) {so : Sg} {r77 : (Int32 × Int32 × Sg) → Option (Sg)} (hr77 : ∀ (v1 : Int32) (v2 : Int32) (sg : Sg), r77 (v1, v2, sg) = some so → ∀ (g : Nat → Nat) (H : Heap) (locs : List Loc) (ls : Array Slot), WS ZC D vwCl T (adr a g) sg lg A s.heap H locs → lv_has ls 6 [(0, .ref ((adr a g) 4)), (1, .int v1), (2, .int v2)] → W p l e rmX9_agree s m args below meth c H locs 1 4096 (MQ below (QV ZC D vwCl T (tysC T) A (fun z => ∃ g' : Nat → Nat, z = adr a g') so lg) args s 1 4096 A) (F0 m 77 ls [])) : ∀ (v1 : Int32) (v2 : Int32) (w0 : Int32) (sg : Sg), ∀ (g : Nat → Nat) (H : Heap) (locs : List Loc) (ls : Array Slot), WS ZC D vwCl T (adr a g) sg lg A s.heap H locs → lv_has ls 6 [(0, .ref ((adr a g) 4)), (1, .int v1), (2, .int v2)] → fX9_agree_101 r77 v1 v2 w0 sg = some so → W p l e rmX9_agree s m args below meth c H locs 1 4096 (MQ below (QV ZC D vwCl T (tysC T) A (fun z => ∃ g' : Nat → Nat, z = adr a g') so lg) args s 1 4096 A) (F0 m 101 ls [.int w0]) := by
  obtain ⟨⟨hx, hb, hml, hown, hts⟩, hr, hlk, hK, hA, hsp⟩ := id C
  intro v1 v2 w0 sg g H locs ls hw hl h
  unfold fX9_agree_101 at h
  refine lv_istore_n (lv' := [(3, .int w0), (0, .ref ((adr a g) 4)), (1, .int v1), (2, .int v2)]) hx hb dX9_agree_101 rfl hl (by decide) rfl (fun ls hl => ?_)
  refine lv_iconst (v := (0 : Int32)) hx hb dX9_agree_102 (by decide) ?_
  refine lv_istore (lv' := [(4, .int (0 : Int32)), (3, .int w0), (0, .ref ((adr a g) 4)), (1, .int v1), (2, .int v2)]) hx hb dX9_agree_103 hl (by decide) rfl (fun ls hl => ?_)
  exact TX9_agree_105 C hr77 v1 v2 w0 (0 : Int32) sg h g _ _ _ hw (lv_sub hl [2, 3, 4, 1, 0] rfl)
def fX9_agree_77 (r77 : (Int32 × Int32 × Sg) → Option (Sg)) (v1 : Int32) (v2 : Int32) (sg : Sg) : Option (Sg) :=
  (if v1 ≤ v2 then some sg else gin v2 ((sg 99 66).toNatClampNeg) ((if (sg 66 v2.toNatClampNeg) = (1 : Int32) then bnd2 (fX9_bestChoices v2 sg) (fun y4 sg5 => fX9_agree_101 r77 v1 v2 y4 sg5) else fX9_agree_101 r77 v1 v2 (0 : Int32) sg)))
set_option maxHeartbeats 4000000 in
set_option maxRecDepth 100000 in
theorem tX9_agree_77 (C : Cx p s m args meth c cX9_agree 6 RX9 wsX9_agree none D vwCl (tysC T) A true nwL) {so : Sg} {r77 : (Int32 × Int32 × Sg) → Option (Sg)} (hr77 : ∀ (v1 : Int32) (v2 : Int32) (sg : Sg), r77 (v1, v2, sg) = some so → ∀ (g : Nat → Nat) (H : Heap) (locs : List Loc) (ls : Array Slot), WS ZC D vwCl T (adr a g) sg lg A s.heap H locs → lv_has ls 6 [(0, .ref ((adr a g) 4)), (1, .int v1), (2, .int v2)] → W p l e rmX9_agree s m args below meth c H locs 1 4096 (MQ below (QV ZC D vwCl T (tysC T) A (fun z => ∃ g' : Nat → Nat, z = adr a g') so lg) args s 1 4096 A) (F0 m 77 ls [])) : ∀ (v1 : Int32) (v2 : Int32) (sg : Sg), ∀ (g : Nat → Nat) (H : Heap) (locs : List Loc) (ls : Array Slot), WS ZC D vwCl T (adr a g) sg lg A s.heap H locs → lv_has ls 6 [(0, .ref ((adr a g) 4)), (1, .int v1), (2, .int v2)] → fX9_agree_77 r77 v1 v2 sg = some so → W p l e rmX9_agree s m args below meth c H locs 1 4096 (MQ below (QV ZC D vwCl T (tysC T) A (fun z => ∃ g' : Nat → Nat, z = adr a g') so lg) args s 1 4096 A) (F0 m 77 ls []) := by
  obtain ⟨⟨hx, hb, hml, hown, hts⟩, hr, hlk, hK, hA, hsp⟩ := id C
  intro v1 v2 sg g H locs ls hw hl h
  unfold fX9_agree_77 at h
  refine lv_iload_n hx hb dX9_agree_77 rfl (lv_at hl 2 rfl) ?_
  refine lv_iload_n hx hb dX9_agree_78 rfl (lv_at hl 1 rfl) ?_
  refine lv_icmp_ge (tgt := 177) hx hb dX9_agree_79 (by decide) (fun c1 => ?_) (fun c1 => ?_)
  · replace h := ite_t h c1
    cases h
    exact r_vret C hw ⟨_, rfl⟩ (by decide) (by decide) dX9_agree_177
  · replace h := ite_f h c1
    refine lv_aload_n hx hb dX9_agree_82 rfl (lv_at hl 0 rfl) ?_
    refine r_getR (ci := 9) (C := RX9) (U := TX9) (N := 11) hx hb hts kX9_agree_iX9 hown hK hw 4 (by decide) rfl rfl 9 (by decide) 66 rfl (hts _ kX9_agree_f31) (fun _ h9 => h9) dX9_agree_83 ?_
    refine lv_iload_n hx hb dX9_agree_86 rfl (lv_at hl 2 rfl) ?_
    have hi2 := (gin_some h).1
    replace h := (gin_some h).2
    refine r_bald hx hb hK hw 66 1 ((sg 99 66).toNatClampNeg) (by decide) rfl rfl rfl hi2 dX9_agree_87 ?_
    refine lv_iconst (v := (1 : Int32)) hx hb dX9_agree_88 (by decide) ?_
    refine lv_icmp_ne (tgt := 100) hx hb dX9_agree_89 (by decide) (fun c3 => ?_) (fun c3 => ?_)
    · replace h := ite_f h c3
      refine lv_iconst (v := (0 : Int32)) hx hb dX9_agree_100 (by decide) ?_
      exact tX9_agree_101 C hr77 v1 v2 (0 : Int32) sg g _ _ _ hw (lv_sub hl [0, 1, 2] rfl) h
    · replace h := ite_t h c3
      refine lv_aload_n hx hb dX9_agree_92 rfl (lv_at hl 0 rfl) ?_
      refine lv_iload_n hx hb dX9_agree_93 rfl (lv_at hl 2 rfl) ?_
      obtain ⟨y4, sg5, hq6, h2⟩ := bnd2_some h
      replace h := h2
      clear h2
      refine r_cVi (As := [.int v2]) (rest := []) C hw 4 (by decide) (ci := 9) rfl rfl (mX9_bestChoices l D T (adr a g) lg H.size v2 sg hq6) (cwV 1 hts gX9_agree_X9_bestChoices rfl rfl rfl (by decide +kernel) ⟨Nat.le_of_ble_eq_true rfl, Nat.le_of_ble_eq_true rfl⟩) rfl hl.1 rfl (Nat.le_of_ble_eq_true rfl) dX9_agree_94 ⟨Nat.le_of_ble_eq_true rfl, Nat.le_of_ble_eq_true rfl⟩ (fun ad' H locs hp hw => ?_)
      subst hp
      refine W.widen (k := 1) (n := 4096) (by decide) (by decide) ?_
      refine lv_goto (tgt := 101) hx hb dX9_agree_97 (by decide) ?_
      exact tX9_agree_101 C hr77 v1 v2 y4 sg5 g _ _ _ hw (lv_sub hl [0, 1, 2] rfl) h
def LX9_agree_77  : (Int32 × Int32 × Sg) → Option (Sg) := loop (fun rec z => fX9_agree_77 rec z.1 z.2.1 z.2.2)
theorem TX9_agree_77 (C : Cx p s m args meth c cX9_agree 6 RX9 wsX9_agree none D vwCl (tysC T) A true nwL) {so : Sg}   : ∀ (v1 : Int32) (v2 : Int32) (sg : Sg), LX9_agree_77 (v1, v2, sg) = some so → ∀ (g : Nat → Nat) (H : Heap) (locs : List Loc) (ls : Array Slot), WS ZC D vwCl T (adr a g) sg lg A s.heap H locs → lv_has ls 6 [(0, .ref ((adr a g) 4)), (1, .int v1), (2, .int v2)] → W p l e rmX9_agree s m args below meth c H locs 1 4096 (MQ below (QV ZC D vwCl T (tysC T) A (fun z => ∃ g' : Nat → Nat, z = adr a g') so lg) args s 1 4096 A) (F0 m 77 ls []) := by
  have key : ∀ z : (Int32 × Int32 × Sg), LX9_agree_77  z = some so → ∀ (g : Nat → Nat) (H : Heap) (locs : List Loc) (ls : Array Slot), WS ZC D vwCl T (adr a g) z.2.2 lg A s.heap H locs → lv_has ls 6 [(0, .ref ((adr a g) 4)), (1, .int z.1), (2, .int z.2.1)] → W p l e rmX9_agree s m args below meth c H locs 1 4096 (MQ below (QV ZC D vwCl T (tysC T) A (fun z => ∃ g' : Nat → Nat, z = adr a g') so lg) args s 1 4096 A) (F0 m 77 ls []) := by
    intro z h
    unfold LX9_agree_77 at h
    exact loop_ind (fun rec z => fX9_agree_77 rec z.1 z.2.1 z.2.2) (y := so) (P := fun z => ∀ (g : Nat → Nat) (H : Heap) (locs : List Loc) (ls : Array Slot), WS ZC D vwCl T (adr a g) z.2.2 lg A s.heap H locs → lv_has ls 6 [(0, .ref ((adr a g) 4)), (1, .int z.1), (2, .int z.2.1)] → W p l e rmX9_agree s m args below meth c H locs 1 4096 (MQ below (QV ZC D vwCl T (tysC T) A (fun z => ∃ g' : Nat → Nat, z = adr a g') so lg) args s 1 4096 A) (F0 m 77 ls [])) (fun rec hrec z h g H locs ls hw hl => tX9_agree_77 C  (fun v1 v2 sg => hrec (v1, v2, sg)) z.1 z.2.1 z.2.2 g H locs ls hw hl h) z h
  exact fun v1 v2 sg => key (v1, v2, sg)
def fX9_agree_52  (v1 : Int32) (sg : Sg) : Option (Sg) :=
  bnd1 (fJ7_fill_031fb_c66 (0 : Int32) sg) (fun sg1 => bnd1 (fJ7_fill_53178_c24 (0 : Int32) sg1) (fun sg3 => gin (0 : Int32) ((sg3 99 66).toNatClampNeg) (lt (up2 sg3 66 (0 : Int32).toNatClampNeg ((1 : Int32).toInt8.toInt32)) (fun sg6 => LX9_agree_77 (v1, (0 : Int32), sg6)))))
set_option maxHeartbeats 4000000 in
set_option maxRecDepth 100000 in
theorem tX9_agree_52 (C : Cx p s m args meth c cX9_agree 6 RX9 wsX9_agree none D vwCl (tysC T) A true nwL) {so : Sg}   : ∀ (v1 : Int32) (sg : Sg), ∀ (g : Nat → Nat) (H : Heap) (locs : List Loc) (ls : Array Slot), WS ZC D vwCl T (adr a g) sg lg A s.heap H locs → lv_has ls 6 [(0, .ref ((adr a g) 4)), (1, .int v1)] → fX9_agree_52 v1 sg = some so → W p l e rmX9_agree s m args below meth c H locs 1 4096 (MQ below (QV ZC D vwCl T (tysC T) A (fun z => ∃ g' : Nat → Nat, z = adr a g') so lg) args s 1 4096 A) (F0 m 52 ls []) := by
  obtain ⟨⟨hx, hb, hml, hown, hts⟩, hr, hlk, hK, hA, hsp⟩ := id C
  intro v1 sg g H locs ls hw hl h
  unfold fX9_agree_52 at h
  refine lv_aload_n hx hb dX9_agree_52 rfl (lv_at hl 0 rfl) ?_
  refine r_getR (ci := 9) (C := RX9) (U := TX9) (N := 11) hx hb hts kX9_agree_iX9 hown hK hw 4 (by decide) rfl rfl 9 (by decide) 66 rfl (hts _ kX9_agree_f31) (fun _ h9 => h9) dX9_agree_53 ?_
  refine lv_iconst (v := (0 : Int32)) hx hb dX9_agree_56 (by decide) ?_
  obtain ⟨sg1, hq2, h2⟩ := bnd1_some h
  replace h := h2
  clear h2
  refine r_cSv (As := [.ref ((adr a g) 66), .int (0 : Int32)]) (rest := []) C hw (mJ7_fill_031fb_c66 l D T (adr a g) lg H.size (0 : Int32) sg hq2) (va_cwS 2 hts gX9_agree_J7_fill_031fb rfl rfl rfl (by decide +kernel) ⟨Nat.le_of_ble_eq_true rfl, Nat.le_of_ble_eq_true rfl⟩) rfl hl.1 rfl (Nat.le_of_ble_eq_true rfl) dX9_agree_57 ⟨Nat.le_of_ble_eq_true rfl, Nat.le_of_ble_eq_true rfl⟩ (fun ad' H locs hp hw => ?_)
  subst hp
  refine W.widen (k := 1) (n := 4096) (by decide) (by decide) ?_
  refine lv_aload_n hx hb dX9_agree_60 rfl (lv_at hl 0 rfl) ?_
  refine r_getR (ci := 9) (C := RX9) (U := TX9) (N := 11) hx hb hts kX9_agree_iX9 hown hK hw 4 (by decide) rfl rfl 10 (by decide) 24 rfl (hts _ kX9_agree_f35) (fun _ h9 => h9) dX9_agree_61 ?_
  refine lv_iconst (v := (0 : Int32)) hx hb dX9_agree_64 (by decide) ?_
  obtain ⟨sg3, hq4, h2⟩ := bnd1_some h
  replace h := h2
  clear h2
  refine r_cSv (As := [.ref ((adr a g) 24), .int (0 : Int32)]) (rest := []) C hw (mJ7_fill_53178_c24 l D T (adr a g) lg H.size (0 : Int32) sg1 hq4) (va_cwS 2 hts gX9_agree_J7_fill_53178 rfl rfl rfl (by decide +kernel) ⟨Nat.le_of_ble_eq_true rfl, Nat.le_of_ble_eq_true rfl⟩) rfl hl.1 rfl (Nat.le_of_ble_eq_true rfl) dX9_agree_65 ⟨Nat.le_of_ble_eq_true rfl, Nat.le_of_ble_eq_true rfl⟩ (fun ad' H locs hp hw => ?_)
  subst hp
  refine W.widen (k := 1) (n := 4096) (by decide) (by decide) ?_
  refine lv_aload_n hx hb dX9_agree_68 rfl (lv_at hl 0 rfl) ?_
  refine r_getR (ci := 9) (C := RX9) (U := TX9) (N := 11) hx hb hts kX9_agree_iX9 hown hK hw 4 (by decide) rfl rfl 9 (by decide) 66 rfl (hts _ kX9_agree_f31) (fun _ h9 => h9) dX9_agree_69 ?_
  refine lv_iconst (v := (0 : Int32)) hx hb dX9_agree_72 (by decide) ?_
  refine lv_iconst (v := (1 : Int32)) hx hb dX9_agree_73 (by decide) ?_
  have hi5 := (gin_some h).1
  replace h := (gin_some h).2
  refine r_bast ZC_ok hx hb hK hw 66 1 ((sg3 99 66).toNatClampNeg) (by decide) rfl rfl rfl hi5 dX9_agree_74 (fun H locs sg6 esg6 hw => ?_)
  replace h := lt_get h sg6 esg6
  refine lv_iconst (v := (0 : Int32)) hx hb dX9_agree_75 (by decide) ?_
  refine lv_istore_n (lv' := [(2, .int (0 : Int32)), (0, .ref ((adr a g) 4)), (1, .int v1)]) hx hb dX9_agree_76 rfl hl (by decide) rfl (fun ls hl => ?_)
  exact TX9_agree_77 C v1 (0 : Int32) sg6 h g _ _ _ hw (lv_sub hl [1, 2, 0] rfl)
def fX9_agree  (sg : Sg) : Option (Sg) :=
  (if (sg 4 3) = (sg 3 1) then some sg else lt (sg 3 1) (fun x2 => lt (up2 sg 4 3 x2) (fun sg3 => bnd2 (fX8_all sg3) (fun y4 sg5 => (if y4 < (Int32.ofNat (sg5 99 66).toNatClampNeg) then fX9_agree_52 y4 sg5 else lt (y4 + (1 : Int32)) (fun x8 => gnw x8 (lt (nw2 sg5 66 x8) (fun sg10 => fX9_agree_52 y4 sg10))))))))
set_option maxHeartbeats 4000000 in
set_option maxRecDepth 100000 in
theorem tX9_agree_0 (C : Cx p s m args meth c cX9_agree 6 RX9 wsX9_agree none D vwCl (tysC T) A true nwL) {so : Sg}   : ∀ (sg : Sg), ∀ (g : Nat → Nat) (H : Heap) (locs : List Loc) (ls : Array Slot), WS ZC D vwCl T (adr a g) sg lg A s.heap H locs → lv_has ls 6 [(0, .ref ((adr a g) 4))] → fX9_agree sg = some so → W p l e rmX9_agree s m args below meth c H locs 0 0 (MQ below (QV ZC D vwCl T (tysC T) A (fun z => ∃ g' : Nat → Nat, z = adr a g') so lg) args s 1 4096 A) (F0 m 0 ls []) := by
  obtain ⟨⟨hx, hb, hml, hown, hts⟩, hr, hlk, hK, hA, hsp⟩ := id C
  intro sg g H locs ls hw hl h
  unfold fX9_agree at h
  refine lv_aload_n hx hb dX9_agree_0 rfl (lv_at hl 0 rfl) ?_
  refine r_getI (ci := 9) (C := RX9) (U := TX9) (N := 11) hx hb hts kX9_agree_iX9 hown hK hw 4 (by decide) rfl rfl 3 (by decide) rfl (hts _ kX9_agree_f15) (fun _ h9 => h9) dX9_agree_1 ?_
  refine lv_aload_n hx hb dX9_agree_4 rfl (lv_at hl 0 rfl) ?_
  refine r_getR (ci := 9) (C := RX9) (U := TX9) (N := 11) hx hb hts kX9_agree_iX9 hown hK hw 4 (by decide) rfl rfl 0 (by decide) 3 rfl (hts _ kX9_agree_f38) (fun _ h9 => h9) dX9_agree_5 ?_
  refine r_getI (ci := 8) (C := RX8) (U := TX8) (N := 10) hx hb hts kX9_agree_iX8 hown hK hw 3 (by decide) rfl rfl 1 (by decide) rfl (hts _ kX9_agree_f54) (fun _ h9 => h9) dX9_agree_8 ?_
  refine lv_icmp_ne (tgt := 15) hx hb dX9_agree_11 (by decide) (fun c1 => ?_) (fun c1 => ?_)
  · replace h := ite_f h c1
    refine lv_aload_n hx hb dX9_agree_15 rfl (lv_at hl 0 rfl) ?_
    refine lv_aload_n hx hb dX9_agree_16 rfl (lv_at hl 0 rfl) ?_
    refine r_getR (ci := 9) (C := RX9) (U := TX9) (N := 11) hx hb hts kX9_agree_iX9 hown hK hw 4 (by decide) rfl rfl 0 (by decide) 3 rfl (hts _ kX9_agree_f38) (fun _ h9 => h9) dX9_agree_17 ?_
    refine r_getI (ci := 8) (C := RX8) (U := TX8) (N := 10) hx hb hts kX9_agree_iX8 hown hK hw 3 (by decide) rfl rfl 1 (by decide) rfl (hts _ kX9_agree_f54) (fun _ h9 => h9) dX9_agree_20 ?_
    refine lv_topi (fun x2 ex2 => ?_)
    replace h := lt_get h x2 ex2
    refine r_putI ZC_ok (ci := 9) (C := RX9) (U := TX9) (N := 11) (ty := .int) hx hb hts kX9_agree_iX9 tyX9 tyX9_ok nmX9 hown hK hw 4 (by decide) rfl rfl 3 (by decide) rfl (hts _ kX9_agree_f15) (fun _ h9 => h9) rfl (by decide +kernel) rfl rfl dX9_agree_23 (fun H locs sg3 esg3 hw => ?_)
    replace h := lt_get h sg3 esg3
    refine lv_aload_n hx hb dX9_agree_26 rfl (lv_at hl 0 rfl) ?_
    refine r_getR (ci := 9) (C := RX9) (U := TX9) (N := 11) hx hb hts kX9_agree_iX9 hown hK hw 4 (by decide) rfl rfl 0 (by decide) 3 rfl (hts _ kX9_agree_f38) (fun _ h9 => h9) dX9_agree_27 ?_
    obtain ⟨y4, sg5, hq6, h2⟩ := bnd2_some h
    replace h := h2
    clear h2
    refine r_cVi (As := []) (rest := []) C hw 3 (by decide) (ci := 8) rfl rfl (mX8_all l D T (adr a g) lg H.size sg3 hq6) (cwV 0 hts gX9_agree_X8_all rfl rfl rfl (by decide +kernel) ⟨Nat.le_of_ble_eq_true rfl, Nat.le_of_ble_eq_true rfl⟩) rfl hl.1 rfl (Nat.le_of_ble_eq_true rfl) dX9_agree_30 ⟨Nat.le_of_ble_eq_true rfl, Nat.le_of_ble_eq_true rfl⟩ (fun ad' H locs hp hw => ?_)
    subst hp
    refine W.widen (k := 0) (n := 0) (by decide) (by decide) ?_
    refine lv_istore_n (lv' := [(1, .int y4), (0, .ref ((adr a g) 4))]) hx hb dX9_agree_33 rfl hl (by decide) rfl (fun ls hl => ?_)
    refine lv_aload_n hx hb dX9_agree_34 rfl (lv_at hl 1 rfl) ?_
    refine r_getR (ci := 9) (C := RX9) (U := TX9) (N := 11) hx hb hts kX9_agree_iX9 hown hK hw 4 (by decide) rfl rfl 9 (by decide) 66 rfl (hts _ kX9_agree_f31) (fun _ h9 => h9) dX9_agree_35 ?_
    refine r_alen hx hb hK hw 66 1 ((sg5 99 66).toNatClampNeg) (by decide) 1 rfl (by decide) rfl rfl (v := (Int32.ofNat (sg5 99 66).toNatClampNeg)) rfl dX9_agree_38 ?_
    refine lv_iload_n hx hb dX9_agree_39 rfl (lv_at hl 0 rfl) ?_
    refine lv_icmp_gt (tgt := 52) hx hb dX9_agree_40 (by decide) (fun c7 => ?_) (fun c7 => ?_)
    · replace h := ite_t h c7
      refine W.widen (k := 1) (n := 4096) (by decide) (by decide) ?_
      exact tX9_agree_52 C y4 sg5 g _ _ _ hw (lv_sub hl [1, 0] rfl) h
    · replace h := ite_f h c7
      refine lv_aload_n hx hb dX9_agree_43 rfl (lv_at hl 1 rfl) ?_
      refine lv_iload_n hx hb dX9_agree_44 rfl (lv_at hl 0 rfl) ?_
      refine lv_iconst (v := (1 : Int32)) hx hb dX9_agree_45 (by decide) ?_
      refine lv_iadd hx hb dX9_agree_46 ?_
      refine lv_topi (fun x8 ex8 => ?_)
      replace h := lt_get h x8 ex8
      have hw9 := (gnw_some h).1
      replace h := (gnw_some h).2
      refine r_new66 hx hb hts kX9_agree_iX9 hown hK hw hA (hts _ kX9_agree_arB) hw9 (hts _ kX9_agree_f31) dX9_agree_47 dX9_agree_49 (by decide) (by decide) (fun g11 H locs sg10 esg10 hw => ?_)
      refine W.widen (k := 1) (n := 4096) (by omega) (by have := hw9.2; omega) ?_
      replace h := lt_get h sg10 esg10
      exact tX9_agree_52 C y4 sg10 g11 _ _ _ hw (lv_sub hl [1, 0] rfl) h
  · replace h := ite_t h c1
    cases h
    exact r_vret C hw ⟨_, rfl⟩ (by decide) (by decide) dX9_agree_14
theorem mX9_agree (l : Launch) (D : va_G) (T : Nat → ClassId) (a g : Nat → Nat) (lg : Lg) (sz : Nat)   (sg : Sg) {so : Sg} (h : fX9_agree sg = some so) : Met l yX9_agree wsX9_agree rmX9_agree (PreZ ZC D vwCl T (tysC T) (adr a g) sg lg true nwL [.ref ((adr a g) 4)] sz) (QV ZC D vwCl T (tysC T) (va_A (zwd ZC T (adr a g) sg lg) sz) (fun z => ∃ g' : Nat → Nat, z = adr a g') so lg) 1 4096 (va_A (zwd ZC T (adr a g) sg lg) sz) :=
  metZ [.ref ((adr a g) 4)] sz (by decide) rfl (Nat.le_of_ble_eq_true rfl) (fun p e s m below meth c ls C hw hl => tX9_agree_0 C sg g _ _ _ hw hl h)
-- PeckYard$Orders.mayStandAbove(II)Z
def rmX9_mayStandAbove : Room := { frames := 1, cells := 0, slots := 0, locals := 21 }
theorem kX9_mayStandAbove_f35 : Cond.fieldLink RX9 35 "PeckYard$Orders" "mayBeBelow" "[I" ∈ wsX9_mayStandAbove := by decide +kernel
theorem kX9_mayStandAbove_iX9 : ∀ w ∈ u_ws RX9 TX9 11, w ∈ wsX9_mayStandAbove := by decide +kernel
theorem kX9_mayStandAbove_ini_X11 : Cond.initialized "PeckYard" ∈ wsX9_mayStandAbove := by decide +kernel
theorem kX9_mayStandAbove_s85 : Cond.static yX11_isIn ∈ wsX9_mayStandAbove := by decide +kernel
def fX9_mayStandAbove  (v1 : Int32) (v2 : Int32) (sg : Sg) : Option (Int32 × Sg) :=
  gin v1 12 (bnd2 (fX11_isIn (sg 24 v1.toNatClampNeg) v2 sg) (fun y2 sg3 => gz y2 (some (y2, sg3))))
set_option maxHeartbeats 4000000 in
set_option maxRecDepth 100000 in
theorem tX9_mayStandAbove_0 (C : Cx p s m args meth c cX9_mayStandAbove 3 RX9 wsX9_mayStandAbove (some .boolean) D vwCl (tysC T) A true nwL) {ro : Int32} {so : Sg}   : ∀ (v1 : Int32) (v2 : Int32) (sg : Sg), ∀ (H : Heap) (locs : List Loc) (ls : Array Slot), WS ZC D vwCl T ad sg lg A s.heap H locs → lv_has ls 3 [(0, .ref (ad 4)), (1, .int v1), (2, .int v2)] → fX9_mayStandAbove v1 v2 sg = some (ro, so) → W p l e rmX9_mayStandAbove s m args below meth c H locs 0 0 (MQ below (QI ZC D vwCl T (tysC T) A (fun z => ad = z) ro so lg) args s 0 0 A) (F0 m 0 ls []) := by
  obtain ⟨⟨hx, hb, hml, hown, hts⟩, hr, hlk, hK, hA, hsp⟩ := id C
  intro v1 v2 sg H locs ls hw hl h
  unfold fX9_mayStandAbove at h
  refine lv_aload_n hx hb dX9_mayStandAbove_0 rfl (lv_at hl 0 rfl) ?_
  refine r_getR (ci := 9) (C := RX9) (U := TX9) (N := 11) hx hb hts kX9_mayStandAbove_iX9 hown hK hw 4 (by decide) rfl rfl 10 (by decide) 24 rfl (hts _ kX9_mayStandAbove_f35) (fun _ h9 => h9) dX9_mayStandAbove_1 ?_
  refine lv_iload_n hx hb dX9_mayStandAbove_4 rfl (lv_at hl 1 rfl) ?_
  have hi1 := (gin_some h).1
  replace h := (gin_some h).2
  refine r_iald hx hb hK hw 24 0 12 (by decide) rfl rfl rfl hi1 dX9_mayStandAbove_5 ?_
  refine lv_iload_n hx hb dX9_mayStandAbove_6 rfl (lv_at hl 2 rfl) ?_
  obtain ⟨y2, sg3, hq4, h2⟩ := bnd2_some h
  replace h := h2
  clear h2
  obtain ⟨-, -, hmt5⟩ := hsp rfl
  refine r_cNi (As := [.int (sg 24 v1.toNatClampNeg), .int v2]) (rest := []) C hw (mX11_isIn l D T ad lg H.size (sg 24 v1.toNatClampNeg) v2 sg hq4) ⟨va_cnB (host := "PeckYard") 2 hts gX9_mayStandAbove_X11_isIn_n85 rfl rfl rfl (hmt5 _ nw_X9_85) (hts _ kX9_mayStandAbove_ini_X11) (by decide +kernel) ⟨Nat.le_of_ble_eq_true rfl, Nat.le_of_ble_eq_true rfl⟩, (hts _ kX9_mayStandAbove_s85), trivial⟩ rfl hl.1 rfl (Nat.le_of_ble_eq_true rfl) dX9_mayStandAbove_7 ⟨Nat.le_of_ble_eq_true rfl, Nat.le_of_ble_eq_true rfl⟩ (fun ad' H locs hp hw => ?_)
  subst hp
  refine W.widen (k := 0) (n := 0) (by decide) (by decide) ?_
  have hz6 := (gz_some h).1
  replace h := (gz_some h).2
  cases h
  exact r_zret C hw rfl hz6 (by decide) (by decide) dX9_mayStandAbove_10
theorem mX9_mayStandAbove (l : Launch) (D : va_G) (T : Nat → ClassId) (ad : Nat → Nat) (lg : Lg) (sz : Nat)   (v1 : Int32) (v2 : Int32) (sg : Sg) {ro : Int32} {so : Sg} (h : fX9_mayStandAbove v1 v2 sg = some (ro, so)) : Met l yX9_mayStandAbove wsX9_mayStandAbove rmX9_mayStandAbove (PreZ ZC D vwCl T (tysC T) ad sg lg true nwL [.ref (ad 4), .int v1, .int v2] sz) (QI ZC D vwCl T (tysC T) (va_A (zwd ZC T ad sg lg) sz) (fun z => ad = z) ro so lg) 0 0 (va_A (zwd ZC T ad sg lg) sz) :=
  metZ [.ref (ad 4), .int v1, .int v2] sz (by decide) rfl (Nat.le_of_ble_eq_true rfl) (fun p e s m below meth c ls C hw hl => tX9_mayStandAbove_0 C v1 v2 sg _ _ _ hw hl h)
-- PeckYard.sure(II)J
def rmX11_sure : Room := { frames := 5, cells := 3, slots := 12288, locals := 110 }
theorem kX11_sure_c88 : Cond.constantLong RX11 88 (-2000000001) ∈ wsX11_sure := by decide +kernel
theorem kX11_sure_f10 : Cond.fieldLink RX11 10 "PeckYard" "flock" "LPeckYard$Flock;" ∈ wsX11_sure := by decide +kernel
theorem kX11_sure_iX11 : ∀ w ∈ u_ws RX11 TX11 9, w ∈ wsX11_sure := by decide +kernel
theorem kX11_sure_f37 : Cond.fieldLink RX11 37 "PeckYard" "orders" "LPeckYard$Orders;" ∈ wsX11_sure := by decide +kernel
theorem kX11_sure_f28 : Cond.fieldLink RX11 28 "PeckYard" "muster" "LPeckYard$Muster;" ∈ wsX11_sure := by decide +kernel
theorem kX11_sure_f181 : Cond.fieldLink RX11 181 "PeckYard$Muster" "slotOf" "[I" ∈ wsX11_sure := by decide +kernel
theorem kX11_sure_iX8 : ∀ w ∈ u_ws RX8 TX8 10, w ∈ wsX11_sure := by decide +kernel
theorem kX11_sure_c187 : Cond.constantLong RX11 187 (2) ∈ wsX11_sure := by decide +kernel
theorem kX11_sure_c140 : Cond.constantLong RX11 140 (-2000000005) ∈ wsX11_sure := by decide +kernel
def fX11_sure  (v1 : Int32) (v2 : Int32) (sg : Sg) : Option (Int64 × Sg) :=
  (if v1 = v2 then some ((-2000000001 : Int64), sg) else bnd2 (fX2_isCounted v1 sg) (fun y2 sg3 => (if y2 = 0 then some ((-2000000001 : Int64), sg3) else bnd2 (fX2_isCounted v2 sg3) (fun y6 sg7 => (if y6 = 0 then some ((-2000000001 : Int64), sg7) else bnd1 (fX9_solve sg7) (fun sg10 => bnd2 (fX9_hasLawful sg10) (fun y13 sg14 => (if y13 = 0 then some ((-2000000005 : Int64), sg14) else bnd1 (fX9_agree sg14) (fun sg17 => gin v1 12 (lt (sg17 18 v1.toNatClampNeg) (fun x21 => gin v2 12 (lt (sg17 18 v2.toNatClampNeg) (fun x23 => bnd2 (fX9_mayStandAbove x23 x21 sg17) (fun y24 sg25 => (if y24 = 0 then some ((1 : Int64), sg25) else bnd2 (fX9_mayStandAbove x21 x23 sg25) (fun y28 sg29 => (if y28 = 0 then some ((2 : Int64), sg29) else some ((0 : Int64), sg29))))))))))))))))))
set_option maxHeartbeats 4000000 in
set_option maxRecDepth 100000 in
theorem tX11_sure_0 (C : Cx p s m args meth c cX11_sure 5 RX11 wsX11_sure (some .long) D vwCl (tysC T) A true nwL) {ro : Int64} {so : Sg}   : ∀ (v1 : Int32) (v2 : Int32) (sg : Sg), ∀ (g : Nat → Nat) (H : Heap) (locs : List Loc) (ls : Array Slot), WS ZC D vwCl T (adr a g) sg lg A s.heap H locs → lv_has ls 5 [(0, .ref ((adr a g) 0)), (1, .int v1), (2, .int v2)] → fX11_sure v1 v2 sg = some (ro, so) → W p l e rmX11_sure s m args below meth c H locs 0 0 (MQ below (QL ZC D vwCl T (tysC T) A (fun z => ∃ g' : Nat → Nat, z = adr a g') ro so lg) args s 3 12288 A) (F0 m 0 ls []) := by
  obtain ⟨⟨hx, hb, hml, hown, hts⟩, hr, hlk, hK, hA, hsp⟩ := id C
  intro v1 v2 sg g H locs ls hw hl h
  unfold fX11_sure at h
  refine lv_iload_n hx hb dX11_sure_0 rfl (lv_at hl 1 rfl) ?_
  refine lv_iload_n hx hb dX11_sure_1 rfl (lv_at hl 2 rfl) ?_
  refine lv_icmp_eq (tgt := 27) hx hb dX11_sure_2 (by decide) (fun c1 => ?_) (fun c1 => ?_)
  · replace h := ite_t h c1
    refine lv_ldc2 hx hb hown (hts _ kX11_sure_c88) dX11_sure_27 ?_
    cases h
    exact r_lret C hw ⟨_, rfl⟩ (by decide) (by decide) dX11_sure_30
  · replace h := ite_f h c1
    refine lv_aload_n hx hb dX11_sure_5 rfl (lv_at hl 0 rfl) ?_
    refine r_getR (ci := 11) (C := RX11) (U := TX11) (N := 9) hx hb hts kX11_sure_iX11 hown hK hw 0 (by decide) rfl rfl 0 (by decide) 1 rfl (hts _ kX11_sure_f10) (fun _ h9 => h9) dX11_sure_6 ?_
    refine lv_iload_n hx hb dX11_sure_9 rfl (lv_at hl 1 rfl) ?_
    obtain ⟨y2, sg3, hq4, h2⟩ := bnd2_some h
    replace h := h2
    clear h2
    refine r_cVi (As := [.int v1]) (rest := []) C hw 1 (by decide) (ci := 2) rfl rfl (mX2_isCounted l D T (adr a g) lg H.size v1 sg hq4) (cwV 1 hts gX11_sure_X2_isCounted rfl rfl rfl (by decide +kernel) ⟨Nat.le_of_ble_eq_true rfl, Nat.le_of_ble_eq_true rfl⟩) rfl hl.1 rfl (Nat.le_of_ble_eq_true rfl) dX11_sure_10 ⟨Nat.le_of_ble_eq_true rfl, Nat.le_of_ble_eq_true rfl⟩ (fun ad' H locs hp hw => ?_)
    subst hp
    refine W.widen (k := 0) (n := 0) (by decide) (by decide) ?_
    refine lv_if_eq (tgt := 27) hx hb dX11_sure_13 (by decide) (fun c5 => ?_) (fun c5 => ?_)
    · replace h := ite_t h c5
      refine lv_ldc2 hx hb hown (hts _ kX11_sure_c88) dX11_sure_27 ?_
      cases h
      exact r_lret C hw ⟨_, rfl⟩ (by decide) (by decide) dX11_sure_30
    · replace h := ite_f h c5
      refine lv_aload_n hx hb dX11_sure_16 rfl (lv_at hl 0 rfl) ?_
      refine r_getR (ci := 11) (C := RX11) (U := TX11) (N := 9) hx hb hts kX11_sure_iX11 hown hK hw 0 (by decide) rfl rfl 0 (by decide) 1 rfl (hts _ kX11_sure_f10) (fun _ h9 => h9) dX11_sure_17 ?_
      refine lv_iload_n hx hb dX11_sure_20 rfl (lv_at hl 2 rfl) ?_
      obtain ⟨y6, sg7, hq8, h2⟩ := bnd2_some h
      replace h := h2
      clear h2
      refine r_cVi (As := [.int v2]) (rest := []) C hw 1 (by decide) (ci := 2) rfl rfl (mX2_isCounted l D T (adr a g) lg H.size v2 sg3 hq8) (cwV 1 hts gX11_sure_X2_isCounted rfl rfl rfl (by decide +kernel) ⟨Nat.le_of_ble_eq_true rfl, Nat.le_of_ble_eq_true rfl⟩) rfl hl.1 rfl (Nat.le_of_ble_eq_true rfl) dX11_sure_21 ⟨Nat.le_of_ble_eq_true rfl, Nat.le_of_ble_eq_true rfl⟩ (fun ad' H locs hp hw => ?_)
      subst hp
      refine W.widen (k := 0) (n := 0) (by decide) (by decide) ?_
      refine lv_if_ne (tgt := 31) hx hb dX11_sure_24 (by decide) (fun c9 => ?_) (fun c9 => ?_)
      · replace h := ite_f h c9
        refine lv_aload_n hx hb dX11_sure_31 rfl (lv_at hl 0 rfl) ?_
        refine r_getR (ci := 11) (C := RX11) (U := TX11) (N := 9) hx hb hts kX11_sure_iX11 hown hK hw 0 (by decide) rfl rfl 3 (by decide) 4 rfl (hts _ kX11_sure_f37) (fun _ h9 => h9) dX11_sure_32 ?_
        obtain ⟨sg10, hq11, h2⟩ := bnd1_some h
        replace h := h2
        clear h2
        refine r_cVv (As := []) (rest := []) C hw 4 (by decide) (ci := 9) rfl rfl (mX9_solve l D T a g lg H.size sg7 hq11) (cwV 0 hts gX11_sure_X9_solve rfl rfl rfl (by decide +kernel) ⟨Nat.le_of_ble_eq_true rfl, Nat.le_of_ble_eq_true rfl⟩) rfl hl.1 rfl (Nat.le_of_ble_eq_true rfl) dX11_sure_35 ⟨Nat.le_of_ble_eq_true rfl, Nat.le_of_ble_eq_true rfl⟩ (fun ad' H locs hp hw => ?_)
        obtain ⟨g12, rfl⟩ := hp
        refine W.widen (k := 2) (n := 8192) (by decide) (by decide) ?_
        refine lv_aload_n hx hb dX11_sure_38 rfl (lv_at hl 0 rfl) ?_
        refine r_getR (ci := 11) (C := RX11) (U := TX11) (N := 9) hx hb hts kX11_sure_iX11 hown hK hw 0 (by decide) rfl rfl 3 (by decide) 4 rfl (hts _ kX11_sure_f37) (fun _ h9 => h9) dX11_sure_39 ?_
        obtain ⟨y13, sg14, hq15, h2⟩ := bnd2_some h
        replace h := h2
        clear h2
        refine r_cVi (As := []) (rest := []) C hw 4 (by decide) (ci := 9) rfl rfl (mX9_hasLawful l D T (adr a g12) lg H.size sg10 hq15) (cwV 0 hts gX11_sure_X9_hasLawful rfl rfl rfl (by decide +kernel) ⟨Nat.le_of_ble_eq_true rfl, Nat.le_of_ble_eq_true rfl⟩) rfl hl.1 rfl (Nat.le_of_ble_eq_true rfl) dX11_sure_42 ⟨Nat.le_of_ble_eq_true rfl, Nat.le_of_ble_eq_true rfl⟩ (fun ad' H locs hp hw => ?_)
        subst hp
        refine W.widen (k := 2) (n := 8192) (by decide) (by decide) ?_
        refine lv_if_ne (tgt := 52) hx hb dX11_sure_45 (by decide) (fun c16 => ?_) (fun c16 => ?_)
        · replace h := ite_f h c16
          refine lv_aload_n hx hb dX11_sure_52 rfl (lv_at hl 0 rfl) ?_
          refine r_getR (ci := 11) (C := RX11) (U := TX11) (N := 9) hx hb hts kX11_sure_iX11 hown hK hw 0 (by decide) rfl rfl 3 (by decide) 4 rfl (hts _ kX11_sure_f37) (fun _ h9 => h9) dX11_sure_53 ?_
          obtain ⟨sg17, hq18, h2⟩ := bnd1_some h
          replace h := h2
          clear h2
          refine r_cVv (As := []) (rest := []) C hw 4 (by decide) (ci := 9) rfl rfl (mX9_agree l D T a g12 lg H.size sg14 hq18) (cwV 0 hts gX11_sure_X9_agree rfl rfl rfl (by decide +kernel) ⟨Nat.le_of_ble_eq_true rfl, Nat.le_of_ble_eq_true rfl⟩) rfl hl.1 rfl (Nat.le_of_ble_eq_true rfl) dX11_sure_56 ⟨Nat.le_of_ble_eq_true rfl, Nat.le_of_ble_eq_true rfl⟩ (fun ad' H locs hp hw => ?_)
          obtain ⟨g19, rfl⟩ := hp
          refine W.widen (k := 3) (n := 12288) (by decide) (by decide) ?_
          refine lv_aload_n hx hb dX11_sure_59 rfl (lv_at hl 0 rfl) ?_
          refine r_getR (ci := 11) (C := RX11) (U := TX11) (N := 9) hx hb hts kX11_sure_iX11 hown hK hw 0 (by decide) rfl rfl 2 (by decide) 3 rfl (hts _ kX11_sure_f28) (fun _ h9 => h9) dX11_sure_60 ?_
          refine r_getR (ci := 8) (C := RX8) (U := TX8) (N := 10) hx hb hts kX11_sure_iX8 hown hK hw 3 (by decide) rfl rfl 4 (by decide) 18 rfl (hts _ kX11_sure_f181) (fun _ h9 => h9) dX11_sure_63 ?_
          refine lv_iload_n hx hb dX11_sure_66 rfl (lv_at hl 1 rfl) ?_
          have hi20 := (gin_some h).1
          replace h := (gin_some h).2
          refine r_iald hx hb hK hw 18 0 12 (by decide) rfl rfl rfl hi20 dX11_sure_67 ?_
          refine lv_topi (fun x21 ex21 => ?_)
          replace h := lt_get h x21 ex21
          refine lv_istore_n (lv' := [(3, .int x21), (0, .ref ((adr a g) 0)), (1, .int v1), (2, .int v2)]) hx hb dX11_sure_68 rfl hl (by decide) rfl (fun ls hl => ?_)
          refine lv_aload_n hx hb dX11_sure_69 rfl (lv_at hl 1 rfl) ?_
          refine r_getR (ci := 11) (C := RX11) (U := TX11) (N := 9) hx hb hts kX11_sure_iX11 hown hK hw 0 (by decide) rfl rfl 2 (by decide) 3 rfl (hts _ kX11_sure_f28) (fun _ h9 => h9) dX11_sure_70 ?_
          refine r_getR (ci := 8) (C := RX8) (U := TX8) (N := 10) hx hb hts kX11_sure_iX8 hown hK hw 3 (by decide) rfl rfl 4 (by decide) 18 rfl (hts _ kX11_sure_f181) (fun _ h9 => h9) dX11_sure_73 ?_
          refine lv_iload_n hx hb dX11_sure_76 rfl (lv_at hl 3 rfl) ?_
          have hi22 := (gin_some h).1
          replace h := (gin_some h).2
          refine r_iald hx hb hK hw 18 0 12 (by decide) rfl rfl rfl hi22 dX11_sure_77 ?_
          refine lv_topi (fun x23 ex23 => ?_)
          replace h := lt_get h x23 ex23
          refine lv_istore (lv' := [(4, .int x23), (3, .int x21), (0, .ref ((adr a g) 0)), (1, .int v1), (2, .int v2)]) hx hb dX11_sure_78 hl (by decide) rfl (fun ls hl => ?_)
          refine lv_aload_n hx hb dX11_sure_80 rfl (lv_at hl 2 rfl) ?_
          refine r_getR (ci := 11) (C := RX11) (U := TX11) (N := 9) hx hb hts kX11_sure_iX11 hown hK hw 0 (by decide) rfl rfl 3 (by decide) 4 rfl (hts _ kX11_sure_f37) (fun _ h9 => h9) dX11_sure_81 ?_
          refine lv_iload hx hb dX11_sure_84 (lv_at hl 0 rfl) ?_
          refine lv_iload_n hx hb dX11_sure_86 rfl (lv_at hl 1 rfl) ?_
          obtain ⟨y24, sg25, hq26, h2⟩ := bnd2_some h
          replace h := h2
          clear h2
          refine r_cVi (As := [.int x23, .int x21]) (rest := []) C hw 4 (by decide) (ci := 9) rfl rfl (mX9_mayStandAbove l D T (adr a g19) lg H.size x23 x21 sg17 hq26) (cwV 2 hts gX11_sure_X9_mayStandAbove rfl rfl rfl (by decide +kernel) ⟨Nat.le_of_ble_eq_true rfl, Nat.le_of_ble_eq_true rfl⟩) rfl hl.1 rfl (Nat.le_of_ble_eq_true rfl) dX11_sure_87 ⟨Nat.le_of_ble_eq_true rfl, Nat.le_of_ble_eq_true rfl⟩ (fun ad' H locs hp hw => ?_)
          subst hp
          refine W.widen (k := 3) (n := 12288) (by decide) (by decide) ?_
          refine lv_if_ne (tgt := 95) hx hb dX11_sure_90 (by decide) (fun c27 => ?_) (fun c27 => ?_)
          · replace h := ite_f h c27
            refine lv_aload_n hx hb dX11_sure_95 rfl (lv_at hl 2 rfl) ?_
            refine r_getR (ci := 11) (C := RX11) (U := TX11) (N := 9) hx hb hts kX11_sure_iX11 hown hK hw 0 (by decide) rfl rfl 3 (by decide) 4 rfl (hts _ kX11_sure_f37) (fun _ h9 => h9) dX11_sure_96 ?_
            refine lv_iload_n hx hb dX11_sure_99 rfl (lv_at hl 1 rfl) ?_
            refine lv_iload hx hb dX11_sure_100 (lv_at hl 0 rfl) ?_
            obtain ⟨y28, sg29, hq30, h2⟩ := bnd2_some h
            replace h := h2
            clear h2
            refine r_cVi (As := [.int x21, .int x23]) (rest := []) C hw 4 (by decide) (ci := 9) rfl rfl (mX9_mayStandAbove l D T (adr a g19) lg H.size x21 x23 sg25 hq30) (cwV 2 hts gX11_sure_X9_mayStandAbove rfl rfl rfl (by decide +kernel) ⟨Nat.le_of_ble_eq_true rfl, Nat.le_of_ble_eq_true rfl⟩) rfl hl.1 rfl (Nat.le_of_ble_eq_true rfl) dX11_sure_102 ⟨Nat.le_of_ble_eq_true rfl, Nat.le_of_ble_eq_true rfl⟩ (fun ad' H locs hp hw => ?_)
            subst hp
            refine W.widen (k := 3) (n := 12288) (by decide) (by decide) ?_
            refine lv_if_eq (tgt := 112) hx hb dX11_sure_105 (by decide) (fun c31 => ?_) (fun c31 => ?_)
            · replace h := ite_t h c31
              refine lv_ldc2 hx hb hown (hts _ kX11_sure_c187) dX11_sure_112 ?_
              cases h
              exact r_lret C hw ⟨_, rfl⟩ (by decide) (by decide) dX11_sure_115
            · replace h := ite_f h c31
              refine lv_lconst (v := (0 : Int64)) hx hb dX11_sure_108 (by decide) ?_
              refine lv_goto (tgt := 115) hx hb dX11_sure_109 (by decide) ?_
              cases h
              exact r_lret C hw ⟨_, rfl⟩ (by decide) (by decide) dX11_sure_115
          · replace h := ite_t h c27
            refine lv_lconst (v := (1 : Int64)) hx hb dX11_sure_93 (by decide) ?_
            cases h
            exact r_lret C hw ⟨_, rfl⟩ (by decide) (by decide) dX11_sure_94
        · replace h := ite_t h c16
          refine lv_ldc2 hx hb hown (hts _ kX11_sure_c140) dX11_sure_48 ?_
          cases h
          exact r_lret C hw ⟨_, rfl⟩ (by decide) (by decide) dX11_sure_51
      · replace h := ite_t h c9
        refine lv_ldc2 hx hb hown (hts _ kX11_sure_c88) dX11_sure_27 ?_
        cases h
        exact r_lret C hw ⟨_, rfl⟩ (by decide) (by decide) dX11_sure_30
theorem mX11_sure (l : Launch) (D : va_G) (T : Nat → ClassId) (a g : Nat → Nat) (lg : Lg) (sz : Nat)   (v1 : Int32) (v2 : Int32) (sg : Sg) {ro : Int64} {so : Sg} (h : fX11_sure v1 v2 sg = some (ro, so)) : Met l yX11_sure wsX11_sure rmX11_sure (PreZ ZC D vwCl T (tysC T) (adr a g) sg lg true nwL [.ref ((adr a g) 0), .int v1, .int v2] sz) (QL ZC D vwCl T (tysC T) (va_A (zwd ZC T (adr a g) sg lg) sz) (fun z => ∃ g' : Nat → Nat, z = adr a g') ro so lg) 3 12288 (va_A (zwd ZC T (adr a g) sg lg) sz) :=
  metZ [.ref ((adr a g) 0), .int v1, .int v2] sz (by decide) rfl (Nat.le_of_ble_eq_true rfl) (fun p e s m below meth c ls C hw hl => tX11_sure_0 C v1 v2 sg g _ _ _ hw hl h)
end ZC
