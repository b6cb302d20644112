section ZC
variable {p : Program} {l : Launch} {e : Env} {s : State} {m : MethodId} {args : Array Value} {below : List Frame} {meth : Method} {c : Code} {D : va_G} {T : Nat → ClassId} {A : Nat → Prop} {ad a : Nat → Nat} {lg : Lg}
-- PeckYard$Leads.addLeads(II)Z
def rmX6_addLeads : Room := { frames := 0, cells := 0, slots := 0, locals := 0 }
theorem kX6_addLeads_f9 : Cond.fieldLink RX6 9 "PeckYard$Leads" "leads" "[I" ∈ wsX6_addLeads := by decide +kernel
theorem kX6_addLeads_iX6 : ∀ w ∈ u_ws RX6 TX6 3, w ∈ wsX6_addLeads := by decide +kernel
def fX6_addLeads  (v1 : Int32) (v2 : Int32) (sg : Sg) : Option (Int32 × Sg) :=
  gin v1 12 (lt (sg 45 v1.toNatClampNeg) (fun x2 => gin v1 12 (lt ((sg 45 v1.toNatClampNeg) ||| v2) (fun x4 => gin v1 12 (lt (up2 sg 45 v1.toNatClampNeg x4) (fun sg6 => gin v1 12 ((if (sg6 45 v1.toNatClampNeg) = x2 then some ((0 : Int32), sg6) else some ((1 : Int32), sg6)))))))))
set_option maxHeartbeats 4000000 in
set_option maxRecDepth 100000 in
theorem tX6_addLeads_0 (C : Cx p s m args meth c cX6_addLeads 4 RX6 wsX6_addLeads (some .boolean) D vwCl (tysC T) A true nwL) {ro : Int32} {so : Sg}   : ∀ (v1 : Int32) (v2 : Int32) (sg : Sg), ∀ (H : Heap) (locs : List Loc) (ls : Array Slot), WS ZC D vwCl T ad sg lg A s.heap H locs → lv_has ls 4 [(0, .ref (ad 9)), (1, .int v1), (2, .int v2)] → fX6_addLeads v1 v2 sg = some (ro, so) → W p l e rmX6_addLeads s m args below meth c H locs 0 0 (MQ below (QI ZC D vwCl T (tysC T) A (fun z => ad = z) ro so lg) args s 0 0 A) (F0 m 0 ls []) := by
  obtain ⟨⟨hx, hb, hml, hown, hts⟩, hr, hlk, hK, hA, hsp⟩ := id C
  intro v1 v2 sg H locs ls hw hl h
  unfold fX6_addLeads at h
  refine lv_aload_n hx hb dX6_addLeads_0 rfl (lv_at hl 0 rfl) ?_
  refine r_getR (ci := 6) (C := RX6) (U := TX6) (N := 3) hx hb hts kX6_addLeads_iX6 hown hK hw 9 (by decide) rfl rfl 1 (by decide) 45 rfl (hts _ kX6_addLeads_f9) (fun _ h9 => h9) dX6_addLeads_1 ?_
  refine lv_iload_n hx hb dX6_addLeads_4 rfl (lv_at hl 1 rfl) ?_
  have hi1 := (gin_some h).1
  replace h := (gin_some h).2
  refine r_iald hx hb hK hw 45 0 12 (by decide) rfl rfl rfl hi1 dX6_addLeads_5 ?_
  refine lv_topi (fun x2 ex2 => ?_)
  replace h := lt_get h x2 ex2
  refine lv_istore_n (lv' := [(3, .int x2), (0, .ref (ad 9)), (1, .int v1), (2, .int v2)]) hx hb dX6_addLeads_6 rfl hl (by decide) rfl (fun ls hl => ?_)
  refine lv_aload_n hx hb dX6_addLeads_7 rfl (lv_at hl 1 rfl) ?_
  refine r_getR (ci := 6) (C := RX6) (U := TX6) (N := 3) hx hb hts kX6_addLeads_iX6 hown hK hw 9 (by decide) rfl rfl 1 (by decide) 45 rfl (hts _ kX6_addLeads_f9) (fun _ h9 => h9) dX6_addLeads_8 ?_
  refine lv_iload_n hx hb dX6_addLeads_11 rfl (lv_at hl 2 rfl) ?_
  refine lv_dup2_11 hx hb dX6_addLeads_12 rfl rfl ?_
  have hi3 := (gin_some h).1
  replace h := (gin_some h).2
  refine r_iald hx hb hK hw 45 0 12 (by decide) rfl rfl rfl hi3 dX6_addLeads_13 ?_
  refine lv_iload_n hx hb dX6_addLeads_14 rfl (lv_at hl 3 rfl) ?_
  refine lv_ior hx hb dX6_addLeads_15 ?_
  refine lv_topi (fun x4 ex4 => ?_)
  replace h := lt_get h x4 ex4
  have hi5 := (gin_some h).1
  replace h := (gin_some h).2
  refine r_iast ZC_ok hx hb hK hw 45 0 12 (by decide) rfl rfl rfl hi5 dX6_addLeads_16 (fun H locs sg6 esg6 hw => ?_)
  replace h := lt_get h sg6 esg6
  refine lv_aload_n hx hb dX6_addLeads_17 rfl (lv_at hl 1 rfl) ?_
  refine r_getR (ci := 6) (C := RX6) (U := TX6) (N := 3) hx hb hts kX6_addLeads_iX6 hown hK hw 9 (by decide) rfl rfl 1 (by decide) 45 rfl (hts _ kX6_addLeads_f9) (fun _ h9 => h9) dX6_addLeads_18 ?_
  refine lv_iload_n hx hb dX6_addLeads_21 rfl (lv_at hl 2 rfl) ?_
  have hi7 := (gin_some h).1
  replace h := (gin_some h).2
  refine r_iald hx hb hK hw 45 0 12 (by decide) rfl rfl rfl hi7 dX6_addLeads_22 ?_
  refine lv_iload_n hx hb dX6_addLeads_23 rfl (lv_at hl 0 rfl) ?_
  refine lv_icmp_eq (tgt := 31) hx hb dX6_addLeads_24 (by decide) (fun c8 => ?_) (fun c8 => ?_)
  · replace h := ite_t h c8
    refine lv_iconst (v := (0 : Int32)) hx hb dX6_addLeads_31 (by decide) ?_
    cases h
    exact r_zret C hw rfl (by decide) (by decide) (by decide) dX6_addLeads_32
  · replace h := ite_f h c8
    refine lv_iconst (v := (1 : Int32)) hx hb dX6_addLeads_27 (by decide) ?_
    refine lv_goto (tgt := 32) hx hb dX6_addLeads_28 (by decide) ?_
    cases h
    exact r_zret C hw rfl (by decide) (by decide) (by decide) dX6_addLeads_32
theorem mX6_addLeads (l : Launch) (D : va_G) (T : Nat → ClassId) (ad : Nat → Nat) (lg : Lg) (sz : Nat)   (v1 : Int32) (v2 : Int32) (sg : Sg) {ro : Int32} {so : Sg} (h : fX6_addLeads v1 v2 sg = some (ro, so)) : Met l yX6_addLeads wsX6_addLeads rmX6_addLeads (PreZ ZC D vwCl T (tysC T) ad sg lg true nwL [.ref (ad 9), .int v1, .int v2] sz) (QI ZC D vwCl T (tysC T) (va_A (zwd ZC T ad sg lg) sz) (fun z => ad = z) ro so lg) 0 0 (va_A (zwd ZC T ad sg lg) sz) :=
  metZ [.ref (ad 9), .int v1, .int v2] sz (by decide) rfl (Nat.le_of_ble_eq_true rfl) (fun p e s m below meth c ls C hw hl => tX6_addLeads_0 C v1 v2 sg _ _ _ hw hl h)
-- PeckYard$Leads.leadOn(I)Z
def rmX6_leadOn : Room := { frames := 1, cells := 0, slots := 0, locals := 23 }
theorem kX6_leadOn_f18 : Cond.fieldLink RX6 18 "PeckYard$Leads" "muster" "LPeckYard$Muster;" ∈ wsX6_leadOn := by decide +kernel
theorem kX6_leadOn_iX6 : ∀ w ∈ u_ws RX6 TX6 3, w ∈ wsX6_leadOn := by decide +kernel
theorem kX6_leadOn_f27 : Cond.fieldLink RX6 27 "PeckYard$Muster" "size" "I" ∈ wsX6_leadOn := by decide +kernel
theorem kX6_leadOn_iX8 : ∀ w ∈ u_ws RX8 TX8 10, w ∈ wsX6_leadOn := by decide +kernel
theorem kX6_leadOn_f9 : Cond.fieldLink RX6 9 "PeckYard$Leads" "leads" "[I" ∈ wsX6_leadOn := by decide +kernel
theorem kX6_leadOn_ini_X11 : Cond.initialized "PeckYard" ∈ wsX6_leadOn := by decide +kernel
theorem kX6_leadOn_s46 : Cond.static yX11_isIn ∈ wsX6_leadOn := by decide +kernel
def fX6_leadOn_37 (r4 : (Int32 × Int32 × Int32 × Sg) → Option (Int32 × Sg)) (v1 : Int32) (v2 : Int32) (v3 : Int32) (sg : Sg) : Option (Int32 × Sg) :=
  lt (v3 + (1 : Int32)) (fun x1 => r4 (v1, v2, x1, sg))
set_option maxHeartbeats 4000000 in
set_option maxRecDepth 100000 in
theorem tX6_leadOn_37 (C : Cx p s m args meth c cX6_leadOn 4 RX6 wsX6_leadOn (some .boolean) D vwCl (tysC T) A true nwL) {ro : Int32} {so : Sg} {r4 : (Int32 × Int32 × Int32 × Sg) → Option (Int32 × Sg)} (hr4 : ∀ (v1 : Int32) (v2 : Int32) (v3 : Int32) (sg : Sg), r4 (v1, v2, v3, sg) = some (ro, so) → ∀ (H : Heap) (locs : List Loc) (ls : Array Slot), WS ZC D vwCl T ad sg lg A s.heap H locs → lv_has ls 4 [(0, .ref (ad 9)), (1, .int v1), (2, .int v2), (3, .int v3)] → W p l e rmX6_leadOn s m args below meth c H locs 0 0 (MQ below (QI ZC D vwCl T (tysC T) A (fun z => ad = z) ro so lg) args s 0 0 A) (F0 m 4 ls [])) : ∀ (v1 : Int32) (v2 : Int32) (v3 : Int32) (sg : Sg), ∀ (H : Heap) (locs : List Loc) (ls : Array Slot), WS ZC D vwCl T ad sg lg A s.heap H locs → lv_has ls 4 [(0, .ref (ad 9)), (1, .int v1), (2, .int v2), (3, .int v3)] → fX6_leadOn_37 r4 v1 v2 v3 sg = some (ro, so) → W p l e rmX6_leadOn s m args below meth c H locs 0 0 (MQ below (QI ZC D vwCl T (tysC T) A (fun z => ad = z) ro so lg) args s 0 0 A) (F0 m 37 ls []) := by
  obtain ⟨⟨hx, hb, hml, hown, hts⟩, hr, hlk, hK, hA, hsp⟩ := id C
  intro v1 v2 v3 sg H locs ls hw hl h
  unfold fX6_leadOn_37 at h
  obtain ⟨x1, ex1⟩ : ∃ z : Int32, z = (v3 + (1 : Int32)) := ⟨_, rfl⟩
  replace h := lt_get h x1 ex1
  refine lv_iinc (v := x1) (lv' := [(3, .int x1), (0, .ref (ad 9)), (1, .int v1), (2, .int v2)]) hx hb dX6_leadOn_37 hl (k := 3) rfl (by rw [ex1]; rfl) (by decide) rfl (fun ls hl => ?_)
  refine lv_goto (tgt := 4) hx hb dX6_leadOn_40 (by decide) ?_
  exact hr4 v1 v2 x1 sg h _ _ _ hw (lv_sub hl [1, 2, 3, 0] rfl)
def fX6_leadOn_4 (r4 : (Int32 × Int32 × Int32 × Sg) → Option (Int32 × Sg)) (v1 : Int32) (v2 : Int32) (v3 : Int32) (sg : Sg) : Option (Int32 × Sg) :=
  (if (sg 3 2) ≤ v3 then bnd2 (fX6_addLeads v1 v2 sg) (fun y2 sg3 => gz y2 (some (y2, sg3))) else gin v1 12 (bnd2 (fX11_isIn (sg 45 v1.toNatClampNeg) v3 sg) (fun y7 sg8 => (if y7 = 0 then fX6_leadOn_37 r4 v1 v2 v3 sg8 else gin v3 12 (lt (v2 ||| (sg8 45 v3.toNatClampNeg)) (fun x13 => fX6_leadOn_37 r4 v1 x13 v3 sg8))))))
set_option maxHeartbeats 4000000 in
set_option maxRecDepth 100000 in
theorem tX6_leadOn_4 (C : Cx p s m args meth c cX6_leadOn 4 RX6 wsX6_leadOn (some .boolean) D vwCl (tysC T) A true nwL) {ro : Int32} {so : Sg} {r4 : (Int32 × Int32 × Int32 × Sg) → Option (Int32 × Sg)} (hr4 : ∀ (v1 : Int32) (v2 : Int32) (v3 : Int32) (sg : Sg), r4 (v1, v2, v3, sg) = some (ro, so) → ∀ (H : Heap) (locs : List Loc) (ls : Array Slot), WS ZC D vwCl T ad sg lg A s.heap H locs → lv_has ls 4 [(0, .ref (ad 9)), (1, .int v1), (2, .int v2), (3, .int v3)] → W p l e rmX6_leadOn s m args below meth c H locs 0 0 (MQ below (QI ZC D vwCl T (tysC T) A (fun z => ad = z) ro so lg) args s 0 0 A) (F0 m 4 ls [])) : ∀ (v1 : Int32) (v2 : Int32) (v3 : Int32) (sg : Sg), ∀ (H : Heap) (locs : List Loc) (ls : Array Slot), WS ZC D vwCl T ad sg lg A s.heap H locs → lv_has ls 4 [(0, .ref (ad 9)), (1, .int v1), (2, .int v2), (3, .int v3)] → fX6_leadOn_4 r4 v1 v2 v3 sg = some (ro, so) → W p l e rmX6_leadOn s m args below meth c H locs 0 0 (MQ below (QI ZC D vwCl T (tysC T) A (fun z => ad = z) ro so lg) args s 0 0 A) (F0 m 4 ls []) := by
  obtain ⟨⟨hx, hb, hml, hown, hts⟩, hr, hlk, hK, hA, hsp⟩ := id C
  intro v1 v2 v3 sg H locs ls hw hl h
  unfold fX6_leadOn_4 at h
  refine lv_iload_n hx hb dX6_leadOn_4 rfl (lv_at hl 3 rfl) ?_
  refine lv_aload_n hx hb dX6_leadOn_5 rfl (lv_at hl 0 rfl) ?_
  refine r_getR (ci := 6) (C := RX6) (U := TX6) (N := 3) hx hb hts kX6_leadOn_iX6 hown hK hw 9 (by decide) rfl rfl 0 (by decide) 3 rfl (hts _ kX6_leadOn_f18) (fun _ h9 => h9) dX6_leadOn_6 ?_
  refine r_getI (ci := 8) (C := RX8) (U := TX8) (N := 10) hx hb hts kX6_leadOn_iX8 hown hK hw 3 (by decide) rfl rfl 2 (by decide) rfl (hts _ kX6_leadOn_f27) (fun _ h9 => h9) dX6_leadOn_9 ?_
  refine lv_icmp_ge (tgt := 43) hx hb dX6_leadOn_12 (by decide) (fun c1 => ?_) (fun c1 => ?_)
  · replace h := ite_t h c1
    refine lv_aload_n hx hb dX6_leadOn_43 rfl (lv_at hl 0 rfl) ?_
    refine lv_iload_n hx hb dX6_leadOn_44 rfl (lv_at hl 1 rfl) ?_
    refine lv_iload_n hx hb dX6_leadOn_45 rfl (lv_at hl 2 rfl) ?_
    obtain ⟨y2, sg3, hq4, h2⟩ := bnd2_some h
    replace h := h2
    clear h2
    refine r_cVi (As := [.int v1, .int v2]) (rest := []) C hw 9 (by decide) (ci := 6) rfl rfl (mX6_addLeads l D T ad lg H.size v1 v2 sg hq4) (cwV 2 hts gX6_leadOn_X6_addLeads rfl rfl rfl (by decide +kernel) ⟨Nat.le_of_ble_eq_true rfl, Nat.le_of_ble_eq_true rfl⟩) rfl hl.1 rfl (Nat.le_of_ble_eq_true rfl) dX6_leadOn_46 ⟨Nat.le_of_ble_eq_true rfl, Nat.le_of_ble_eq_true rfl⟩ (fun ad' H locs hp hw => ?_)
    subst hp
    refine W.widen (k := 0) (n := 0) (by decide) (by decide) ?_
    have hz5 := (gz_some h).1
    replace h := (gz_some h).2
    cases h
    exact r_zret C hw rfl hz5 (by decide) (by decide) dX6_leadOn_49
  · replace h := ite_f h c1
    refine lv_aload_n hx hb dX6_leadOn_15 rfl (lv_at hl 0 rfl) ?_
    refine r_getR (ci := 6) (C := RX6) (U := TX6) (N := 3) hx hb hts kX6_leadOn_iX6 hown hK hw 9 (by decide) rfl rfl 1 (by decide) 45 rfl (hts _ kX6_leadOn_f9) (fun _ h9 => h9) dX6_leadOn_16 ?_
    refine lv_iload_n hx hb dX6_leadOn_19 rfl (lv_at hl 1 rfl) ?_
    have hi6 := (gin_some h).1
    replace h := (gin_some h).2
    refine r_iald hx hb hK hw 45 0 12 (by decide) rfl rfl rfl hi6 dX6_leadOn_20 ?_
    refine lv_iload_n hx hb dX6_leadOn_21 rfl (lv_at hl 3 rfl) ?_
    obtain ⟨y7, sg8, hq9, h2⟩ := bnd2_some h
    replace h := h2
    clear h2
    obtain ⟨-, -, hmt10⟩ := hsp rfl
    refine r_cNi (As := [.int (sg 45 v1.toNatClampNeg), .int v3]) (rest := []) C hw (mX11_isIn l D T ad lg H.size (sg 45 v1.toNatClampNeg) v3 sg hq9) ⟨va_cnB (host := "PeckYard") 2 hts gX6_leadOn_X11_isIn_n46 rfl rfl rfl (hmt10 _ nw_X6_46) (hts _ kX6_leadOn_ini_X11) (by decide +kernel) ⟨Nat.le_of_ble_eq_true rfl, Nat.le_of_ble_eq_true rfl⟩, (hts _ kX6_leadOn_s46), trivial⟩ rfl hl.1 rfl (Nat.le_of_ble_eq_true rfl) dX6_leadOn_22 ⟨Nat.le_of_ble_eq_true rfl, Nat.le_of_ble_eq_true rfl⟩ (fun ad' H locs hp hw => ?_)
    subst hp
    refine W.widen (k := 0) (n := 0) (by decide) (by decide) ?_
    refine lv_if_eq (tgt := 37) hx hb dX6_leadOn_25 (by decide) (fun c11 => ?_) (fun c11 => ?_)
    · replace h := ite_t h c11
      exact tX6_leadOn_37 C hr4 v1 v2 v3 sg8 _ _ _ hw (lv_sub hl [0, 1, 2, 3] rfl) h
    · replace h := ite_f h c11
      refine lv_iload_n hx hb dX6_leadOn_28 rfl (lv_at hl 2 rfl) ?_
      refine lv_aload_n hx hb dX6_leadOn_29 rfl (lv_at hl 0 rfl) ?_
      refine r_getR (ci := 6) (C := RX6) (U := TX6) (N := 3) hx hb hts kX6_leadOn_iX6 hown hK hw 9 (by decide) rfl rfl 1 (by decide) 45 rfl (hts _ kX6_leadOn_f9) (fun _ h9 => h9) dX6_leadOn_30 ?_
      refine lv_iload_n hx hb dX6_leadOn_33 rfl (lv_at hl 3 rfl) ?_
      have hi12 := (gin_some h).1
      replace h := (gin_some h).2
      refine r_iald hx hb hK hw 45 0 12 (by decide) rfl rfl rfl hi12 dX6_leadOn_34 ?_
      refine lv_ior hx hb dX6_leadOn_35 ?_
      refine lv_topi (fun x13 ex13 => ?_)
      replace h := lt_get h x13 ex13
      refine lv_istore_n (lv' := [(2, .int x13), (0, .ref (ad 9)), (1, .int v1), (3, .int v3)]) hx hb dX6_leadOn_36 rfl hl (by decide) rfl (fun ls hl => ?_)
      exact tX6_leadOn_37 C hr4 v1 x13 v3 sg8 _ _ _ hw (lv_sub hl [1, 2, 0, 3] rfl) h
def LX6_leadOn_4  : (Int32 × Int32 × Int32 × Sg) → Option (Int32 × Sg) := loop (fun rec z => fX6_leadOn_4 rec z.1 z.2.1 z.2.2.1 z.2.2.2)
theorem TX6_leadOn_4 (C : Cx p s m args meth c cX6_leadOn 4 RX6 wsX6_leadOn (some .boolean) D vwCl (tysC T) A true nwL) {ro : Int32} {so : Sg}   : ∀ (v1 : Int32) (v2 : Int32) (v3 : Int32) (sg : Sg), LX6_leadOn_4 (v1, v2, v3, sg) = some (ro, so) → ∀ (H : Heap) (locs : List Loc) (ls : Array Slot), WS ZC D vwCl T ad sg lg A s.heap H locs → lv_has ls 4 [(0, .ref (ad 9)), (1, .int v1), (2, .int v2), (3, .int v3)] → W p l e rmX6_leadOn s m args below meth c H locs 0 0 (MQ below (QI ZC D vwCl T (tysC T) A (fun z => ad = z) ro so lg) args s 0 0 A) (F0 m 4 ls []) := by
  have key : ∀ z : (Int32 × Int32 × Int32 × Sg), LX6_leadOn_4  z = some (ro, so) → ∀ (H : Heap) (locs : List Loc) (ls : Array Slot), WS ZC D vwCl T ad z.2.2.2 lg A s.heap H locs → lv_has ls 4 [(0, .ref (ad 9)), (1, .int z.1), (2, .int z.2.1), (3, .int z.2.2.1)] → W p l e rmX6_leadOn s m args below meth c H locs 0 0 (MQ below (QI ZC D vwCl T (tysC T) A (fun z => ad = z) ro so lg) args s 0 0 A) (F0 m 4 ls []) := by
    intro z h
    unfold LX6_leadOn_4 at h
    exact loop_ind (fun rec z => fX6_leadOn_4 rec z.1 z.2.1 z.2.2.1 z.2.2.2) (y := (ro, so)) (P := fun z => ∀ (H : Heap) (locs : List Loc) (ls : Array Slot), WS ZC D vwCl T ad z.2.2.2 lg A s.heap H locs → lv_has ls 4 [(0, .ref (ad 9)), (1, .int z.1), (2, .int z.2.1), (3, .int z.2.2.1)] → W p l e rmX6_leadOn s m args below meth c H locs 0 0 (MQ below (QI ZC D vwCl T (tysC T) A (fun z => ad = z) ro so lg) args s 0 0 A) (F0 m 4 ls [])) (fun rec hrec z h H locs ls hw hl => tX6_leadOn_4 C  (fun v1 v2 v3 sg => hrec (v1, v2, v3, sg)) z.1 z.2.1 z.2.2.1 z.2.2.2 H locs ls hw hl h) z h
  exact fun v1 v2 v3 sg => key (v1, v2, v3, sg)
def fX6_leadOn  (v1 : Int32) (sg : Sg) : Option (Int32 × Sg) :=
  LX6_leadOn_4 (v1, (0 : Int32), (0 : Int32), sg)
set_option maxHeartbeats 4000000 in
set_option maxRecDepth 100000 in
theorem tX6_leadOn_0 (C : Cx p s m args meth c cX6_leadOn 4 RX6 wsX6_leadOn (some .boolean) D vwCl (tysC T) A true nwL) {ro : Int32} {so : Sg}   : ∀ (v1 : Int32) (sg : Sg), ∀ (H : Heap) (locs : List Loc) (ls : Array Slot), WS ZC D vwCl T ad sg lg A s.heap H locs → lv_has ls 4 [(0, .ref (ad 9)), (1, .int v1)] → fX6_leadOn v1 sg = some (ro, so) → W p l e rmX6_leadOn s m args below meth c H locs 0 0 (MQ below (QI ZC D vwCl T (tysC T) A (fun z => ad = z) ro so lg) args s 0 0 A) (F0 m 0 ls []) := by
  obtain ⟨⟨hx, hb, hml, hown, hts⟩, hr, hlk, hK, hA, hsp⟩ := id C
  intro v1 sg H locs ls hw hl h
  unfold fX6_leadOn at h
  refine lv_iconst (v := (0 : Int32)) hx hb dX6_leadOn_0 (by decide) ?_
  refine lv_istore_n (lv' := [(2, .int (0 : Int32)), (0, .ref (ad 9)), (1, .int v1)]) hx hb dX6_leadOn_1 rfl hl (by decide) rfl (fun ls hl => ?_)
  refine lv_iconst (v := (0 : Int32)) hx hb dX6_leadOn_2 (by decide) ?_
  refine lv_istore_n (lv' := [(3, .int (0 : Int32)), (2, .int (0 : Int32)), (0, .ref (ad 9)), (1, .int v1)]) hx hb dX6_leadOn_3 rfl hl (by decide) rfl (fun ls hl => ?_)
  exact TX6_leadOn_4 C v1 (0 : Int32) (0 : Int32) sg h _ _ _ hw (lv_sub hl [2, 3, 1, 0] rfl)
theorem mX6_leadOn (l : Launch) (D : va_G) (T : Nat → ClassId) (ad : Nat → Nat) (lg : Lg) (sz : Nat)   (v1 : Int32) (sg : Sg) {ro : Int32} {so : Sg} (h : fX6_leadOn v1 sg = some (ro, so)) : Met l yX6_leadOn wsX6_leadOn rmX6_leadOn (PreZ ZC D vwCl T (tysC T) ad sg lg true nwL [.ref (ad 9), .int v1] sz) (QI ZC D vwCl T (tysC T) (va_A (zwd ZC T ad sg lg) sz) (fun z => ad = z) ro so lg) 0 0 (va_A (zwd ZC T ad sg lg) sz) :=
  metZ [.ref (ad 9), .int v1] sz (by decide) rfl (Nat.le_of_ble_eq_true rfl) (fun p e s m below meth c ls C hw hl => tX6_leadOn_0 C v1 sg _ _ _ hw hl h)
-- PeckYard$Leads.leadAsBlock(I)Z
def rmX6_leadAsBlock : Room := { frames := 1, cells := 0, slots := 0, locals := 23 }
theorem kX6_leadAsBlock_f18 : Cond.fieldLink RX6 18 "PeckYard$Leads" "muster" "LPeckYard$Muster;" ∈ wsX6_leadAsBlock := by decide +kernel
theorem kX6_leadAsBlock_iX6 : ∀ w ∈ u_ws RX6 TX6 3, w ∈ wsX6_leadAsBlock := by decide +kernel
theorem kX6_leadAsBlock_f27 : Cond.fieldLink RX6 27 "PeckYard$Muster" "size" "I" ∈ wsX6_leadAsBlock := by decide +kernel
theorem kX6_leadAsBlock_iX8 : ∀ w ∈ u_ws RX8 TX8 10, w ∈ wsX6_leadAsBlock := by decide +kernel
theorem kX6_leadAsBlock_ini_X11 : Cond.initialized "PeckYard" ∈ wsX6_leadAsBlock := by decide +kernel
theorem kX6_leadAsBlock_s46 : Cond.static yX11_isIn ∈ wsX6_leadAsBlock := by decide +kernel
theorem kX6_leadAsBlock_f9 : Cond.fieldLink RX6 9 "PeckYard$Leads" "leads" "[I" ∈ wsX6_leadAsBlock := by decide +kernel
def fX6_leadAsBlock_103 (r47 : (Int32 × Int32 × Int32 × Int32 × Sg) → Option (Int32 × Sg)) (v1 : Int32) (v2 : Int32) (v3 : Int32) (v4 : Int32) (sg : Sg) : Option (Int32 × Sg) :=
  lt (v4 + (1 : Int32)) (fun x1 => r47 (v1, v2, v3, x1, sg))
set_option maxHeartbeats 4000000 in
set_option maxRecDepth 100000 in
theorem tX6_leadAsBlock_103 (C : Cx p s m args meth c cX6_leadAsBlock 5 RX6 wsX6_leadAsBlock (some .boolean) D vwCl (tysC T) A true nwL) {ro : Int32} {so : Sg} {r47 : (Int32 × Int32 × Int32 × Int32 × Sg) → Option (Int32 × Sg)} (hr47 : ∀ (v1 : Int32) (v2 : Int32) (v3 : Int32) (v4 : Int32) (sg : Sg), r47 (v1, v2, v3, v4, sg) = some (ro, so) → ∀ (H : Heap) (locs : List Loc) (ls : Array Slot), WS ZC D vwCl T ad sg lg A s.heap H locs → lv_has ls 5 [(0, .ref (ad 9)), (1, .int v1), (2, .int v2), (3, .int v3), (4, .int v4)] → W p l e rmX6_leadAsBlock s m args below meth c H locs 0 0 (MQ below (QI ZC D vwCl T (tysC T) A (fun z => ad = z) ro so lg) args s 0 0 A) (F0 m 47 ls [])) : ∀ (v1 : Int32) (v2 : Int32) (v3 : Int32) (v4 : Int32) (sg : Sg), ∀ (H : Heap) (locs : List Loc) (ls : Array Slot), WS ZC D vwCl T ad sg lg A s.heap H locs → lv_has ls 5 [(0, .ref (ad 9)), (1, .int v1), (2, .int v2), (3, .int v3), (4, .int v4)] → fX6_leadAsBlock_103 r47 v1 v2 v3 v4 sg = some (ro, so) → W p l e rmX6_leadAsBlock s m args below meth c H locs 0 0 (MQ below (QI ZC D vwCl T (tysC T) A (fun z => ad = z) ro so lg) args s 0 0 A) (F0 m 103 ls []) := by
  obtain ⟨⟨hx, hb, hml, hown, hts⟩, hr, hlk, hK, hA, hsp⟩ := id C
  intro v1 v2 v3 v4 sg H locs ls hw hl h
  unfold fX6_leadAsBlock_103 at h
  obtain ⟨x1, ex1⟩ : ∃ z : Int32, z = (v4 + (1 : Int32)) := ⟨_, rfl⟩
  replace h := lt_get h x1 ex1
  refine lv_iinc (v := x1) (lv' := [(4, .int x1), (0, .ref (ad 9)), (1, .int v1), (2, .int v2), (3, .int v3)]) hx hb dX6_leadAsBlock_103 hl (k := 4) rfl (by rw [ex1]; rfl) (by decide) rfl (fun ls hl => ?_)
  refine lv_goto (tgt := 47) hx hb dX6_leadAsBlock_106 (by decide) ?_
  exact hr47 v1 v2 v3 x1 sg h _ _ _ hw (lv_sub hl [1, 2, 3, 4, 0] rfl)
def fX6_leadAsBlock_47 (r47 : (Int32 × Int32 × Int32 × Int32 × Sg) → Option (Int32 × Sg)) (v1 : Int32) (v2 : Int32) (v3 : Int32) (v4 : Int32) (sg : Sg) : Option (Int32 × Sg) :=
  (if (sg 3 2) ≤ v4 then gz v3 (some (v3, sg)) else bnd2 (fX11_isIn v1 v4 sg) (fun y3 sg4 => (if y3 = 0 then gin v4 12 ((if ((sg4 45 v4.toNatClampNeg) &&& v1) = 0 then fX6_leadAsBlock_103 r47 v1 v2 v3 v4 sg4 else bnd2 (fX6_addLeads v4 v1 sg4) (fun y10 sg11 => lt (v3 ||| y10) (fun x13 => fX6_leadAsBlock_103 r47 v1 v2 x13 v4 sg11)))) else bnd2 (fX6_addLeads v4 v2 sg4) (fun y14 sg15 => lt (v3 ||| y14) (fun x17 => fX6_leadAsBlock_103 r47 v1 v2 x17 v4 sg15)))))
set_option maxHeartbeats 4000000 in
set_option maxRecDepth 100000 in
theorem tX6_leadAsBlock_47 (C : Cx p s m args meth c cX6_leadAsBlock 5 RX6 wsX6_leadAsBlock (some .boolean) D vwCl (tysC T) A true nwL) {ro : Int32} {so : Sg} {r47 : (Int32 × Int32 × Int32 × Int32 × Sg) → Option (Int32 × Sg)} (hr47 : ∀ (v1 : Int32) (v2 : Int32) (v3 : Int32) (v4 : Int32) (sg : Sg), r47 (v1, v2, v3, v4, sg) = some (ro, so) → ∀ (H : Heap) (locs : List Loc) (ls : Array Slot), WS ZC D vwCl T ad sg lg A s.heap H locs → lv_has ls 5 [(0, .ref (ad 9)), (1, .int v1), (2, .int v2), (3, .int v3), (4, .int v4)] → W p l e rmX6_leadAsBlock s m args below meth c H locs 0 0 (MQ below (QI ZC D vwCl T (tysC T) A (fun z => ad = z) ro so lg) args s 0 0 A) (F0 m 47 ls [])) : ∀ (v1 : Int32) (v2 : Int32) (v3 : Int32) (v4 : Int32) (sg : Sg), ∀ (H : Heap) (locs : List Loc) (ls : Array Slot), WS ZC D vwCl T ad sg lg A s.heap H locs → lv_has ls 5 [(0, .ref (ad 9)), (1, .int v1), (2, .int v2), (3, .int v3), (4, .int v4)] → fX6_leadAsBlock_47 r47 v1 v2 v3 v4 sg = some (ro, so) → W p l e rmX6_leadAsBlock s m args below meth c H locs 0 0 (MQ below (QI ZC D vwCl T (tysC T) A (fun z => ad = z) ro so lg) args s 0 0 A) (F0 m 47 ls []) := by
  obtain ⟨⟨hx, hb, hml, hown, hts⟩, hr, hlk, hK, hA, hsp⟩ := id C
  intro v1 v2 v3 v4 sg H locs ls hw hl h
  unfold fX6_leadAsBlock_47 at h
  refine lv_iload hx hb dX6_leadAsBlock_47 (lv_at hl 4 rfl) ?_
  refine lv_aload_n hx hb dX6_leadAsBlock_49 rfl (lv_at hl 0 rfl) ?_
  refine r_getR (ci := 6) (C := RX6) (U := TX6) (N := 3) hx hb hts kX6_leadAsBlock_iX6 hown hK hw 9 (by decide) rfl rfl 0 (by decide) 3 rfl (hts _ kX6_leadAsBlock_f18) (fun _ h9 => h9) dX6_leadAsBlock_50 ?_
  refine r_getI (ci := 8) (C := RX8) (U := TX8) (N := 10) hx hb hts kX6_leadAsBlock_iX8 hown hK hw 3 (by decide) rfl rfl 2 (by decide) rfl (hts _ kX6_leadAsBlock_f27) (fun _ h9 => h9) dX6_leadAsBlock_53 ?_
  refine lv_icmp_ge (tgt := 109) hx hb dX6_leadAsBlock_56 (by decide) (fun c1 => ?_) (fun c1 => ?_)
  · replace h := ite_t h c1
    refine lv_iload_n hx hb dX6_leadAsBlock_109 rfl (lv_at hl 3 rfl) ?_
    have hz2 := (gz_some h).1
    replace h := (gz_some h).2
    cases h
    exact r_zret C hw rfl hz2 (by decide) (by decide) dX6_leadAsBlock_110
  · replace h := ite_f h c1
    refine lv_iload_n hx hb dX6_leadAsBlock_59 rfl (lv_at hl 1 rfl) ?_
    refine lv_iload hx hb dX6_leadAsBlock_60 (lv_at hl 4 rfl) ?_
    obtain ⟨y3, sg4, hq5, h2⟩ := bnd2_some h
    replace h := h2
    clear h2
    obtain ⟨-, -, hmt6⟩ := hsp rfl
    refine r_cNi (As := [.int v1, .int v4]) (rest := []) C hw (mX11_isIn l D T ad lg H.size v1 v4 sg hq5) ⟨va_cnB (host := "PeckYard") 2 hts gX6_leadAsBlock_X11_isIn_n46 rfl rfl rfl (hmt6 _ nw_X6_46) (hts _ kX6_leadAsBlock_ini_X11) (by decide +kernel) ⟨Nat.le_of_ble_eq_true rfl, Nat.le_of_ble_eq_true rfl⟩, (hts _ kX6_leadAsBlock_s46), trivial⟩ rfl hl.1 rfl (Nat.le_of_ble_eq_true rfl) dX6_leadAsBlock_62 ⟨Nat.le_of_ble_eq_true rfl, Nat.le_of_ble_eq_true rfl⟩ (fun ad' H locs hp hw => ?_)
    subst hp
    refine W.widen (k := 0) (n := 0) (by decide) (by decide) ?_
    refine lv_if_eq (tgt := 81) hx hb dX6_leadAsBlock_65 (by decide) (fun c7 => ?_) (fun c7 => ?_)
    · replace h := ite_t h c7
      refine lv_aload_n hx hb dX6_leadAsBlock_81 rfl (lv_at hl 0 rfl) ?_
      refine r_getR (ci := 6) (C := RX6) (U := TX6) (N := 3) hx hb hts kX6_leadAsBlock_iX6 hown hK hw 9 (by decide) rfl rfl 1 (by decide) 45 rfl (hts _ kX6_leadAsBlock_f9) (fun _ h9 => h9) dX6_leadAsBlock_82 ?_
      refine lv_iload hx hb dX6_leadAsBlock_85 (lv_at hl 4 rfl) ?_
      have hi8 := (gin_some h).1
      replace h := (gin_some h).2
      refine r_iald hx hb hK hw 45 0 12 (by decide) rfl rfl rfl hi8 dX6_leadAsBlock_87 ?_
      refine lv_iload_n hx hb dX6_leadAsBlock_88 rfl (lv_at hl 1 rfl) ?_
      refine lv_iand hx hb dX6_leadAsBlock_89 ?_
      refine lv_if_eq (tgt := 103) hx hb dX6_leadAsBlock_90 (by decide) (fun c9 => ?_) (fun c9 => ?_)
      · replace h := ite_t h c9
        exact tX6_leadAsBlock_103 C hr47 v1 v2 v3 v4 sg4 _ _ _ hw (lv_sub hl [0, 1, 2, 3, 4] rfl) h
      · replace h := ite_f h c9
        refine lv_iload_n hx hb dX6_leadAsBlock_93 rfl (lv_at hl 3 rfl) ?_
        refine lv_aload_n hx hb dX6_leadAsBlock_94 rfl (lv_at hl 0 rfl) ?_
        refine lv_iload hx hb dX6_leadAsBlock_95 (lv_at hl 4 rfl) ?_
        refine lv_iload_n hx hb dX6_leadAsBlock_97 rfl (lv_at hl 1 rfl) ?_
        obtain ⟨y10, sg11, hq12, h2⟩ := bnd2_some h
        replace h := h2
        clear h2
        refine r_cVi (As := [.int v4, .int v1]) (rest := [.int v3]) C hw 9 (by decide) (ci := 6) rfl rfl (mX6_addLeads l D T ad lg H.size v4 v1 sg4 hq12) (cwV 2 hts gX6_leadAsBlock_X6_addLeads rfl rfl rfl (by decide +kernel) ⟨Nat.le_of_ble_eq_true rfl, Nat.le_of_ble_eq_true rfl⟩) rfl hl.1 rfl (Nat.le_of_ble_eq_true rfl) dX6_leadAsBlock_98 ⟨Nat.le_of_ble_eq_true rfl, Nat.le_of_ble_eq_true rfl⟩ (fun ad' H locs hp hw => ?_)
        subst hp
        refine W.widen (k := 0) (n := 0) (by decide) (by decide) ?_
        refine lv_ior hx hb dX6_leadAsBlock_101 ?_
        refine lv_topi (fun x13 ex13 => ?_)
        replace h := lt_get h x13 ex13
        refine lv_istore_n (lv' := [(3, .int x13), (0, .ref (ad 9)), (1, .int v1), (2, .int v2), (4, .int v4)]) hx hb dX6_leadAsBlock_102 rfl hl (by decide) rfl (fun ls hl => ?_)
        exact tX6_leadAsBlock_103 C hr47 v1 v2 x13 v4 sg11 _ _ _ hw (lv_sub hl [1, 2, 3, 0, 4] rfl) h
    · replace h := ite_f h c7
      refine lv_iload_n hx hb dX6_leadAsBlock_68 rfl (lv_at hl 3 rfl) ?_
      refine lv_aload_n hx hb dX6_leadAsBlock_69 rfl (lv_at hl 0 rfl) ?_
      refine lv_iload hx hb dX6_leadAsBlock_70 (lv_at hl 4 rfl) ?_
      refine lv_iload_n hx hb dX6_leadAsBlock_72 rfl (lv_at hl 2 rfl) ?_
      obtain ⟨y14, sg15, hq16, h2⟩ := bnd2_some h
      replace h := h2
      clear h2
      refine r_cVi (As := [.int v4, .int v2]) (rest := [.int v3]) C hw 9 (by decide) (ci := 6) rfl rfl (mX6_addLeads l D T ad lg H.size v4 v2 sg4 hq16) (cwV 2 hts gX6_leadAsBlock_X6_addLeads rfl rfl rfl (by decide +kernel) ⟨Nat.le_of_ble_eq_true rfl, Nat.le_of_ble_eq_true rfl⟩) rfl hl.1 rfl (Nat.le_of_ble_eq_true rfl) dX6_leadAsBlock_73 ⟨Nat.le_of_ble_eq_true rfl, Nat.le_of_ble_eq_true rfl⟩ (fun ad' H locs hp hw => ?_)
      subst hp
      refine W.widen (k := 0) (n := 0) (by decide) (by decide) ?_
      refine lv_ior hx hb dX6_leadAsBlock_76 ?_
      refine lv_topi (fun x17 ex17 => ?_)
      replace h := lt_get h x17 ex17
      refine lv_istore_n (lv' := [(3, .int x17), (0, .ref (ad 9)), (1, .int v1), (2, .int v2), (4, .int v4)]) hx hb dX6_leadAsBlock_77 rfl hl (by decide) rfl (fun ls hl => ?_)
      refine lv_goto (tgt := 103) hx hb dX6_leadAsBlock_78 (by decide) ?_
      exact tX6_leadAsBlock_103 C hr47 v1 v2 x17 v4 sg15 _ _ _ hw (lv_sub hl [1, 2, 3, 0, 4] rfl) h
def LX6_leadAsBlock_47  : (Int32 × Int32 × Int32 × Int32 × Sg) → Option (Int32 × Sg) := loop (fun rec z => fX6_leadAsBlock_47 rec z.1 z.2.1 z.2.2.1 z.2.2.2.1 z.2.2.2.2)
theorem TX6_leadAsBlock_47 (C : Cx p s m args meth c cX6_leadAsBlock 5 RX6 wsX6_leadAsBlock (some .boolean) D vwCl (tysC T) A true nwL) {ro : Int32} {so : Sg}   : ∀ (v1 : Int32) (v2 : Int32) (v3 : Int32) (v4 : Int32) (sg : Sg), LX6_leadAsBlock_47 (v1, v2, v3, v4, sg) = some (ro, so) → ∀ (H : Heap) (locs : List Loc) (ls : Array Slot), WS ZC D vwCl T ad sg lg A s.heap H locs → lv_has ls 5 [(0, .ref (ad 9)), (1, .int v1), (2, .int v2), (3, .int v3), (4, .int v4)] → W p l e rmX6_leadAsBlock s m args below meth c H locs 0 0 (MQ below (QI ZC D vwCl T (tysC T) A (fun z => ad = z) ro so lg) args s 0 0 A) (F0 m 47 ls []) := by
  have key : ∀ z : (Int32 × Int32 × Int32 × Int32 × Sg), LX6_leadAsBlock_47  z = some (ro, so) → ∀ (H : Heap) (locs : List Loc) (ls : Array Slot), WS ZC D vwCl T ad z.2.2.2.2 lg A s.heap H locs → lv_has ls 5 [(0, .ref (ad 9)), (1, .int z.1), (2, .int z.2.1), (3, .int z.2.2.1), (4, .int z.2.2.2.1)] → W p l e rmX6_leadAsBlock s m args below meth c H locs 0 0 (MQ below (QI ZC D vwCl T (tysC T) A (fun z => ad = z) ro so lg) args s 0 0 A) (F0 m 47 ls []) := by
    intro z h
    unfold LX6_leadAsBlock_47 at h
    exact loop_ind (fun rec z => fX6_leadAsBlock_47 rec z.1 z.2.1 z.2.2.1 z.2.2.2.1 z.2.2.2.2) (y := (ro, so)) (P := fun z => ∀ (H : Heap) (locs : List Loc) (ls : Array Slot), WS ZC D vwCl T ad z.2.2.2.2 lg A s.heap H locs → lv_has ls 5 [(0, .ref (ad 9)), (1, .int z.1), (2, .int z.2.1), (3, .int z.2.2.1), (4, .int z.2.2.2.1)] → W p l e rmX6_leadAsBlock s m args below meth c H locs 0 0 (MQ below (QI ZC D vwCl T (tysC T) A (fun z => ad = z) ro so lg) args s 0 0 A) (F0 m 47 ls [])) (fun rec hrec z h H locs ls hw hl => tX6_leadAsBlock_47 C  (fun v1 v2 v3 v4 sg => hrec (v1, v2, v3, v4, sg)) z.1 z.2.1 z.2.2.1 z.2.2.2.1 z.2.2.2.2 H locs ls hw hl h) z h
  exact fun v1 v2 v3 v4 sg => key (v1, v2, v3, v4, sg)
def fX6_leadAsBlock_36 (r4 : (Int32 × Int32 × Int32 × Sg) → Option (Int32 × Sg)) (v1 : Int32) (v2 : Int32) (v3 : Int32) (sg : Sg) : Option (Int32 × Sg) :=
  lt (v3 + (1 : Int32)) (fun x1 => r4 (v1, v2, x1, sg))
set_option maxHeartbeats 4000000 in
set_option maxRecDepth 100000 in
theorem tX6_leadAsBlock_36 (C : Cx p s m args meth c cX6_leadAsBlock 5 RX6 wsX6_leadAsBlock (some .boolean) D vwCl (tysC T) A true nwL) {ro : Int32} {so : Sg} {r4 : (Int32 × Int32 × Int32 × Sg) → Option (Int32 × Sg)} (hr4 : ∀ (v1 : Int32) (v2 : Int32) (v3 : Int32) (sg : Sg), r4 (v1, v2, v3, sg) = some (ro, so) → ∀ (H : Heap) (locs : List Loc) (ls : Array Slot), WS ZC D vwCl T ad sg lg A s.heap H locs → lv_has ls 5 [(0, .ref (ad 9)), (1, .int v1), (2, .int v2), (3, .int v3)] → W p l e rmX6_leadAsBlock s m args below meth c H locs 0 0 (MQ below (QI ZC D vwCl T (tysC T) A (fun z => ad = z) ro so lg) args s 0 0 A) (F0 m 4 ls [])) : ∀ (v1 : Int32) (v2 : Int32) (v3 : Int32) (sg : Sg), ∀ (H : Heap) (locs : List Loc) (ls : Array Slot), WS ZC D vwCl T ad sg lg A s.heap H locs → lv_has ls 5 [(0, .ref (ad 9)), (1, .int v1), (2, .int v2), (3, .int v3)] → fX6_leadAsBlock_36 r4 v1 v2 v3 sg = some (ro, so) → W p l e rmX6_leadAsBlock s m args below meth c H locs 0 0 (MQ below (QI ZC D vwCl T (tysC T) A (fun z => ad = z) ro so lg) args s 0 0 A) (F0 m 36 ls []) := by
  obtain ⟨⟨hx, hb, hml, hown, hts⟩, hr, hlk, hK, hA, hsp⟩ := id C
  intro v1 v2 v3 sg H locs ls hw hl h
  unfold fX6_leadAsBlock_36 at h
  obtain ⟨x1, ex1⟩ : ∃ z : Int32, z = (v3 + (1 : Int32)) := ⟨_, rfl⟩
  replace h := lt_get h x1 ex1
  refine lv_iinc (v := x1) (lv' := [(3, .int x1), (0, .ref (ad 9)), (1, .int v1), (2, .int v2)]) hx hb dX6_leadAsBlock_36 hl (k := 3) rfl (by rw [ex1]; rfl) (by decide) rfl (fun ls hl => ?_)
  refine lv_goto (tgt := 4) hx hb dX6_leadAsBlock_39 (by decide) ?_
  exact hr4 v1 v2 x1 sg h _ _ _ hw (lv_sub hl [1, 2, 3, 0] rfl)
def fX6_leadAsBlock_4 (r4 : (Int32 × Int32 × Int32 × Sg) → Option (Int32 × Sg)) (v1 : Int32) (v2 : Int32) (v3 : Int32) (sg : Sg) : Option (Int32 × Sg) :=
  (if (sg 3 2) ≤ v3 then LX6_leadAsBlock_47 (v1, v2, (0 : Int32), (0 : Int32), sg) else bnd2 (fX11_isIn v1 v3 sg) (fun y2 sg3 => (if y2 = 0 then fX6_leadAsBlock_36 r4 v1 v2 v3 sg3 else gin v3 12 (lt (v2 ||| ((sg3 45 v3.toNatClampNeg) &&& (v1 ^^^ (-1 : Int32)))) (fun x8 => fX6_leadAsBlock_36 r4 v1 x8 v3 sg3)))))
set_option maxHeartbeats 4000000 in
set_option maxRecDepth 100000 in
theorem tX6_leadAsBlock_4 (C : Cx p s m args meth c cX6_leadAsBlock 5 RX6 wsX6_leadAsBlock (some .boolean) D vwCl (tysC T) A true nwL) {ro : Int32} {so : Sg} {r4 : (Int32 × Int32 × Int32 × Sg) → Option (Int32 × Sg)} (hr4 : ∀ (v1 : Int32) (v2 : Int32) (v3 : Int32) (sg : Sg), r4 (v1, v2, v3, sg) = some (ro, so) → ∀ (H : Heap) (locs : List Loc) (ls : Array Slot), WS ZC D vwCl T ad sg lg A s.heap H locs → lv_has ls 5 [(0, .ref (ad 9)), (1, .int v1), (2, .int v2), (3, .int v3)] → W p l e rmX6_leadAsBlock s m args below meth c H locs 0 0 (MQ below (QI ZC D vwCl T (tysC T) A (fun z => ad = z) ro so lg) args s 0 0 A) (F0 m 4 ls [])) : ∀ (v1 : Int32) (v2 : Int32) (v3 : Int32) (sg : Sg), ∀ (H : Heap) (locs : List Loc) (ls : Array Slot), WS ZC D vwCl T ad sg lg A s.heap H locs → lv_has ls 5 [(0, .ref (ad 9)), (1, .int v1), (2, .int v2), (3, .int v3)] → fX6_leadAsBlock_4 r4 v1 v2 v3 sg = some (ro, so) → W p l e rmX6_leadAsBlock s m args below meth c H locs 0 0 (MQ below (QI ZC D vwCl T (tysC T) A (fun z => ad = z) ro so lg) args s 0 0 A) (F0 m 4 ls []) := by
  obtain ⟨⟨hx, hb, hml, hown, hts⟩, hr, hlk, hK, hA, hsp⟩ := id C
  intro v1 v2 v3 sg H locs ls hw hl h
  unfold fX6_leadAsBlock_4 at h
  refine lv_iload_n hx hb dX6_leadAsBlock_4 rfl (lv_at hl 3 rfl) ?_
  refine lv_aload_n hx hb dX6_leadAsBlock_5 rfl (lv_at hl 0 rfl) ?_
  refine r_getR (ci := 6) (C := RX6) (U := TX6) (N := 3) hx hb hts kX6_leadAsBlock_iX6 hown hK hw 9 (by decide) rfl rfl 0 (by decide) 3 rfl (hts _ kX6_leadAsBlock_f18) (fun _ h9 => h9) dX6_leadAsBlock_6 ?_
  refine r_getI (ci := 8) (C := RX8) (U := TX8) (N := 10) hx hb hts kX6_leadAsBlock_iX8 hown hK hw 3 (by decide) rfl rfl 2 (by decide) rfl (hts _ kX6_leadAsBlock_f27) (fun _ h9 => h9) dX6_leadAsBlock_9 ?_
  refine lv_icmp_ge (tgt := 42) hx hb dX6_leadAsBlock_12 (by decide) (fun c1 => ?_) (fun c1 => ?_)
  · replace h := ite_t h c1
    refine lv_iconst (v := (0 : Int32)) hx hb dX6_leadAsBlock_42 (by decide) ?_
    refine lv_istore_n (lv' := [(3, .int (0 : Int32)), (0, .ref (ad 9)), (1, .int v1), (2, .int v2)]) hx hb dX6_leadAsBlock_43 rfl hl (by decide) rfl (fun ls hl => ?_)
    refine lv_iconst (v := (0 : Int32)) hx hb dX6_leadAsBlock_44 (by decide) ?_
    refine lv_istore (lv' := [(4, .int (0 : Int32)), (3, .int (0 : Int32)), (0, .ref (ad 9)), (1, .int v1), (2, .int v2)]) hx hb dX6_leadAsBlock_45 hl (by decide) rfl (fun ls hl => ?_)
    exact TX6_leadAsBlock_47 C v1 v2 (0 : Int32) (0 : Int32) sg h _ _ _ hw (lv_sub hl [2, 3, 4, 1, 0] rfl)
  · replace h := ite_f h c1
    refine lv_iload_n hx hb dX6_leadAsBlock_15 rfl (lv_at hl 1 rfl) ?_
    refine lv_iload_n hx hb dX6_leadAsBlock_16 rfl (lv_at hl 3 rfl) ?_
    obtain ⟨y2, sg3, hq4, h2⟩ := bnd2_some h
    replace h := h2
    clear h2
    obtain ⟨-, -, hmt5⟩ := hsp rfl
    refine r_cNi (As := [.int v1, .int v3]) (rest := []) C hw (mX11_isIn l D T ad lg H.size v1 v3 sg hq4) ⟨va_cnB (host := "PeckYard") 2 hts gX6_leadAsBlock_X11_isIn_n46 rfl rfl rfl (hmt5 _ nw_X6_46) (hts _ kX6_leadAsBlock_ini_X11) (by decide +kernel) ⟨Nat.le_of_ble_eq_true rfl, Nat.le_of_ble_eq_true rfl⟩, (hts _ kX6_leadAsBlock_s46), trivial⟩ rfl hl.1 rfl (Nat.le_of_ble_eq_true rfl) dX6_leadAsBlock_17 ⟨Nat.le_of_ble_eq_true rfl, Nat.le_of_ble_eq_true rfl⟩ (fun ad' H locs hp hw => ?_)
    subst hp
    refine W.widen (k := 0) (n := 0) (by decide) (by decide) ?_
    refine lv_if_eq (tgt := 36) hx hb dX6_leadAsBlock_20 (by decide) (fun c6 => ?_) (fun c6 => ?_)
    · replace h := ite_t h c6
      exact tX6_leadAsBlock_36 C hr4 v1 v2 v3 sg3 _ _ _ hw (lv_sub hl [0, 1, 2, 3] rfl) h
    · replace h := ite_f h c6
      refine lv_iload_n hx hb dX6_leadAsBlock_23 rfl (lv_at hl 2 rfl) ?_
      refine lv_aload_n hx hb dX6_leadAsBlock_24 rfl (lv_at hl 0 rfl) ?_
      refine r_getR (ci := 6) (C := RX6) (U := TX6) (N := 3) hx hb hts kX6_leadAsBlock_iX6 hown hK hw 9 (by decide) rfl rfl 1 (by decide) 45 rfl (hts _ kX6_leadAsBlock_f9) (fun _ h9 => h9) dX6_leadAsBlock_25 ?_
      refine lv_iload_n hx hb dX6_leadAsBlock_28 rfl (lv_at hl 3 rfl) ?_
      have hi7 := (gin_some h).1
      replace h := (gin_some h).2
      refine r_iald hx hb hK hw 45 0 12 (by decide) rfl rfl rfl hi7 dX6_leadAsBlock_29 ?_
      refine lv_iload_n hx hb dX6_leadAsBlock_30 rfl (lv_at hl 1 rfl) ?_
      refine lv_iconst (v := (-1 : Int32)) hx hb dX6_leadAsBlock_31 (by decide) ?_
      refine lv_ixor hx hb dX6_leadAsBlock_32 ?_
      refine lv_iand hx hb dX6_leadAsBlock_33 ?_
      refine lv_ior hx hb dX6_leadAsBlock_34 ?_
      refine lv_topi (fun x8 ex8 => ?_)
      replace h := lt_get h x8 ex8
      refine lv_istore_n (lv' := [(2, .int x8), (0, .ref (ad 9)), (1, .int v1), (3, .int v3)]) hx hb dX6_leadAsBlock_35 rfl hl (by decide) rfl (fun ls hl => ?_)
      exact tX6_leadAsBlock_36 C hr4 v1 x8 v3 sg3 _ _ _ hw (lv_sub hl [1, 2, 0, 3] rfl) h
def LX6_leadAsBlock_4  : (Int32 × Int32 × Int32 × Sg) → Option (Int32 × Sg) := loop (fun rec z => fX6_leadAsBlock_4 rec z.1 z.2.1 z.2.2.1 z.2.2.2)
theorem TX6_leadAsBlock_4 (C : Cx p s m args meth c cX6_leadAsBlock 5 RX6 wsX6_leadAsBlock (some .boolean) D vwCl (tysC T) A true nwL) {ro : Int32} {so : Sg}   : ∀ (v1 : Int32) (v2 : Int32) (v3 : Int32) (sg : Sg), LX6_leadAsBlock_4 (v1, v2, v3, sg) = some (ro, so) → ∀ (H : Heap) (locs : List Loc) (ls : Array Slot), WS ZC D vwCl T ad sg lg A s.heap H locs → lv_has ls 5 [(0, .ref (ad 9)), (1, .int v1), (2, .int v2), (3, .int v3)] → W p l e rmX6_leadAsBlock s m args below meth c H locs 0 0 (MQ below (QI ZC D vwCl T (tysC T) A (fun z => ad = z) ro so lg) args s 0 0 A) (F0 m 4 ls []) := by
  have key : ∀ z : (Int32 × Int32 × Int32 × Sg), LX6_leadAsBlock_4  z = some (ro, so) → ∀ (H : Heap) (locs : List Loc) (ls : Array Slot), WS ZC D vwCl T ad z.2.2.2 lg A s.heap H locs → lv_has ls 5 [(0, .ref (ad 9)), (1, .int z.1), (2, .int z.2.1), (3, .int z.2.2.1)] → W p l e rmX6_leadAsBlock s m args below meth c H locs 0 0 (MQ below (QI ZC D vwCl T (tysC T) A (fun z => ad = z) ro so lg) args s 0 0 A) (F0 m 4 ls []) := by
    intro z h
    unfold LX6_leadAsBlock_4 at h
    exact loop_ind (fun rec z => fX6_leadAsBlock_4 rec z.1 z.2.1 z.2.2.1 z.2.2.2) (y := (ro, so)) (P := fun z => ∀ (H : Heap) (locs : List Loc) (ls : Array Slot), WS ZC D vwCl T ad z.2.2.2 lg A s.heap H locs → lv_has ls 5 [(0, .ref (ad 9)), (1, .int z.1), (2, .int z.2.1), (3, .int z.2.2.1)] → W p l e rmX6_leadAsBlock s m args below meth c H locs 0 0 (MQ below (QI ZC D vwCl T (tysC T) A (fun z => ad = z) ro so lg) args s 0 0 A) (F0 m 4 ls [])) (fun rec hrec z h H locs ls hw hl => tX6_leadAsBlock_4 C  (fun v1 v2 v3 sg => hrec (v1, v2, v3, sg)) z.1 z.2.1 z.2.2.1 z.2.2.2 H locs ls hw hl h) z h
  exact fun v1 v2 v3 sg => key (v1, v2, v3, sg)
def fX6_leadAsBlock  (v1 : Int32) (sg : Sg) : Option (Int32 × Sg) :=
  LX6_leadAsBlock_4 (v1, (0 : Int32), (0 : Int32), sg)
set_option maxHeartbeats 4000000 in
set_option maxRecDepth 100000 in
theorem tX6_leadAsBlock_0 (C : Cx p s m args meth c cX6_leadAsBlock 5 RX6 wsX6_leadAsBlock (some .boolean) D vwCl (tysC T) A true nwL) {ro : Int32} {so : Sg}   : ∀ (v1 : Int32) (sg : Sg), ∀ (H : Heap) (locs : List Loc) (ls : Array Slot), WS ZC D vwCl T ad sg lg A s.heap H locs → lv_has ls 5 [(0, .ref (ad 9)), (1, .int v1)] → fX6_leadAsBlock v1 sg = some (ro, so) → W p l e rmX6_leadAsBlock s m args below meth c H locs 0 0 (MQ below (QI ZC D vwCl T (tysC T) A (fun z => ad = z) ro so lg) args s 0 0 A) (F0 m 0 ls []) := by
  obtain ⟨⟨hx, hb, hml, hown, hts⟩, hr, hlk, hK, hA, hsp⟩ := id C
  intro v1 sg H locs ls hw hl h
  unfold fX6_leadAsBlock at h
  refine lv_iconst (v := (0 : Int32)) hx hb dX6_leadAsBlock_0 (by decide) ?_
  refine lv_istore_n (lv' := [(2, .int (0 : Int32)), (0, .ref (ad 9)), (1, .int v1)]) hx hb dX6_leadAsBlock_1 rfl hl (by decide) rfl (fun ls hl => ?_)
  refine lv_iconst (v := (0 : Int32)) hx hb dX6_leadAsBlock_2 (by decide) ?_
  refine lv_istore_n (lv' := [(3, .int (0 : Int32)), (2, .int (0 : Int32)), (0, .ref (ad 9)), (1, .int v1)]) hx hb dX6_leadAsBlock_3 rfl hl (by decide) rfl (fun ls hl => ?_)
  exact TX6_leadAsBlock_4 C v1 (0 : Int32) (0 : Int32) sg h _ _ _ hw (lv_sub hl [2, 3, 1, 0] rfl)
theorem mX6_leadAsBlock (l : Launch) (D : va_G) (T : Nat → ClassId) (ad : Nat → Nat) (lg : Lg) (sz : Nat)   (v1 : Int32) (sg : Sg) {ro : Int32} {so : Sg} (h : fX6_leadAsBlock v1 sg = some (ro, so)) : Met l yX6_leadAsBlock wsX6_leadAsBlock rmX6_leadAsBlock (PreZ ZC D vwCl T (tysC T) ad sg lg true nwL [.ref (ad 9), .int v1] sz) (QI ZC D vwCl T (tysC T) (va_A (zwd ZC T ad sg lg) sz) (fun z => ad = z) ro so lg) 0 0 (va_A (zwd ZC T ad sg lg) sz) :=
  metZ [.ref (ad 9), .int v1] sz (by decide) rfl (Nat.le_of_ble_eq_true rfl) (fun p e s m below meth c ls C hw hl => tX6_leadAsBlock_0 C v1 sg _ _ _ hw hl h)
-- PeckYard$Leads.blockOf(I)I
def rmX6_blockOf : Room := { frames := 1, cells := 0, slots := 0, locals := 21 }
theorem kX6_blockOf_f18 : Cond.fieldLink RX6 18 "PeckYard$Leads" "muster" "LPeckYard$Muster;" ∈ wsX6_blockOf := by decide +kernel
theorem kX6_blockOf_iX6 : ∀ w ∈ u_ws RX6 TX6 3, w ∈ wsX6_blockOf := by decide +kernel
theorem kX6_blockOf_f27 : Cond.fieldLink RX6 27 "PeckYard$Muster" "size" "I" ∈ wsX6_blockOf := by decide +kernel
theorem kX6_blockOf_iX8 : ∀ w ∈ u_ws RX8 TX8 10, w ∈ wsX6_blockOf := by decide +kernel
theorem kX6_blockOf_ini_X11 : Cond.initialized "PeckYard" ∈ wsX6_blockOf := by decide +kernel
theorem kX6_blockOf_s46 : Cond.static yX11_isIn ∈ wsX6_blockOf := by decide +kernel
theorem kX6_blockOf_f31 : Cond.fieldLink RX6 31 "PeckYard$Muster" "pairs" "[I" ∈ wsX6_blockOf := by decide +kernel
def fX6_blockOf_54 (r6 : (Int32 × Int32 × Sg) → Option (Int32 × Sg)) (r20 : (Int32 × Int32 × Int32 × Sg) → Option (Int32 × Sg)) (v2 : Int32) (v3 : Int32) (v4 : Int32) (sg : Sg) : Option (Int32 × Sg) :=
  lt (v4 + (1 : Int32)) (fun x1 => r20 (v2, v3, x1, sg))
set_option maxHeartbeats 4000000 in
set_option maxRecDepth 100000 in
theorem tX6_blockOf_54 (C : Cx p s m args meth c cX6_blockOf 5 RX6 wsX6_blockOf (some .int) D vwCl (tysC T) A true nwL) {ro : Int32} {so : Sg} {r6 : (Int32 × Int32 × Sg) → Option (Int32 × Sg)} {r20 : (Int32 × Int32 × Int32 × Sg) → Option (Int32 × Sg)} (hr6 : ∀ (v2 : Int32) (v3 : Int32) (sg : Sg), r6 (v2, v3, sg) = some (ro, so) → ∀ (H : Heap) (locs : List Loc) (ls : Array Slot), WS ZC D vwCl T ad sg lg A s.heap H locs → lv_has ls 5 [(0, .ref (ad 9)), (2, .int v2), (3, .int v3)] → W p l e rmX6_blockOf s m args below meth c H locs 0 0 (MQ below (QI ZC D vwCl T (tysC T) A (fun z => ad = z) ro so lg) args s 0 0 A) (F0 m 6 ls [])) (hr20 : ∀ (v2 : Int32) (v3 : Int32) (v4 : Int32) (sg : Sg), r20 (v2, v3, v4, sg) = some (ro, so) → ∀ (H : Heap) (locs : List Loc) (ls : Array Slot), WS ZC D vwCl T ad sg lg A s.heap H locs → lv_has ls 5 [(0, .ref (ad 9)), (2, .int v2), (3, .int v3), (4, .int v4)] → W p l e rmX6_blockOf s m args below meth c H locs 0 0 (MQ below (QI ZC D vwCl T (tysC T) A (fun z => ad = z) ro so lg) args s 0 0 A) (F0 m 20 ls [])) : ∀ (v2 : Int32) (v3 : Int32) (v4 : Int32) (sg : Sg), ∀ (H : Heap) (locs : List Loc) (ls : Array Slot), WS ZC D vwCl T ad sg lg A s.heap H locs → lv_has ls 5 [(0, .ref (ad 9)), (2, .int v2), (3, .int v3), (4, .int v4)] → fX6_blockOf_54 r6 r20 v2 v3 v4 sg = some (ro, so) → W p l e rmX6_blockOf s m args below meth c H locs 0 0 (MQ below (QI ZC D vwCl T (tysC T) A (fun z => ad = z) ro so lg) args s 0 0 A) (F0 m 54 ls []) := by
  obtain ⟨⟨hx, hb, hml, hown, hts⟩, hr, hlk, hK, hA, hsp⟩ := id C
  intro v2 v3 v4 sg H locs ls hw hl h
  unfold fX6_blockOf_54 at h
  obtain ⟨x1, ex1⟩ : ∃ z : Int32, z = (v4 + (1 : Int32)) := ⟨_, rfl⟩
  replace h := lt_get h x1 ex1
  refine lv_iinc (v := x1) (lv' := [(4, .int x1), (0, .ref (ad 9)), (2, .int v2), (3, .int v3)]) hx hb dX6_blockOf_54 hl (k := 3) rfl (by rw [ex1]; rfl) (by decide) rfl (fun ls hl => ?_)
  refine lv_goto (tgt := 20) hx hb dX6_blockOf_57 (by decide) ?_
  exact hr20 v2 v3 x1 sg h _ _ _ hw (lv_sub hl [1, 2, 3, 0] rfl)
def fX6_blockOf_20 (r6 : (Int32 × Int32 × Sg) → Option (Int32 × Sg)) (r20 : (Int32 × Int32 × Int32 × Sg) → Option (Int32 × Sg)) (v2 : Int32) (v3 : Int32) (v4 : Int32) (sg : Sg) : Option (Int32 × Sg) :=
  (if (sg 3 2) ≤ v4 then lt (v3 + (1 : Int32)) (fun x2 => r6 (v2, x2, sg)) else bnd2 (fX11_isIn v2 v4 sg) (fun y3 sg4 => (if y3 = 0 then fX6_blockOf_54 r6 r20 v2 v3 v4 sg4 else gin v4 12 (lt (v2 ||| (sg4 22 v4.toNatClampNeg)) (fun x9 => fX6_blockOf_54 r6 r20 x9 v3 v4 sg4)))))
set_option maxHeartbeats 4000000 in
set_option maxRecDepth 100000 in
theorem tX6_blockOf_20 (C : Cx p s m args meth c cX6_blockOf 5 RX6 wsX6_blockOf (some .int) D vwCl (tysC T) A true nwL) {ro : Int32} {so : Sg} {r6 : (Int32 × Int32 × Sg) → Option (Int32 × Sg)} {r20 : (Int32 × Int32 × Int32 × Sg) → Option (Int32 × Sg)} (hr6 : ∀ (v2 : Int32) (v3 : Int32) (sg : Sg), r6 (v2, v3, sg) = some (ro, so) → ∀ (H : Heap) (locs : List Loc) (ls : Array Slot), WS ZC D vwCl T ad sg lg A s.heap H locs → lv_has ls 5 [(0, .ref (ad 9)), (2, .int v2), (3, .int v3)] → W p l e rmX6_blockOf s m args below meth c H locs 0 0 (MQ below (QI ZC D vwCl T (tysC T) A (fun z => ad = z) ro so lg) args s 0 0 A) (F0 m 6 ls [])) (hr20 : ∀ (v2 : Int32) (v3 : Int32) (v4 : Int32) (sg : Sg), r20 (v2, v3, v4, sg) = some (ro, so) → ∀ (H : Heap) (locs : List Loc) (ls : Array Slot), WS ZC D vwCl T ad sg lg A s.heap H locs → lv_has ls 5 [(0, .ref (ad 9)), (2, .int v2), (3, .int v3), (4, .int v4)] → W p l e rmX6_blockOf s m args below meth c H locs 0 0 (MQ below (QI ZC D vwCl T (tysC T) A (fun z => ad = z) ro so lg) args s 0 0 A) (F0 m 20 ls [])) : ∀ (v2 : Int32) (v3 : Int32) (v4 : Int32) (sg : Sg), ∀ (H : Heap) (locs : List Loc) (ls : Array Slot), WS ZC D vwCl T ad sg lg A s.heap H locs → lv_has ls 5 [(0, .ref (ad 9)), (2, .int v2), (3, .int v3), (4, .int v4)] → fX6_blockOf_20 r6 r20 v2 v3 v4 sg = some (ro, so) → W p l e rmX6_blockOf s m args below meth c H locs 0 0 (MQ below (QI ZC D vwCl T (tysC T) A (fun z => ad = z) ro so lg) args s 0 0 A) (F0 m 20 ls []) := by
  obtain ⟨⟨hx, hb, hml, hown, hts⟩, hr, hlk, hK, hA, hsp⟩ := id C
  intro v2 v3 v4 sg H locs ls hw hl h
  unfold fX6_blockOf_20 at h
  refine lv_iload hx hb dX6_blockOf_20 (lv_at hl 3 rfl) ?_
  refine lv_aload_n hx hb dX6_blockOf_22 rfl (lv_at hl 0 rfl) ?_
  refine r_getR (ci := 6) (C := RX6) (U := TX6) (N := 3) hx hb hts kX6_blockOf_iX6 hown hK hw 9 (by decide) rfl rfl 0 (by decide) 3 rfl (hts _ kX6_blockOf_f18) (fun _ h9 => h9) dX6_blockOf_23 ?_
  refine r_getI (ci := 8) (C := RX8) (U := TX8) (N := 10) hx hb hts kX6_blockOf_iX8 hown hK hw 3 (by decide) rfl rfl 2 (by decide) rfl (hts _ kX6_blockOf_f27) (fun _ h9 => h9) dX6_blockOf_26 ?_
  refine lv_icmp_ge (tgt := 60) hx hb dX6_blockOf_29 (by decide) (fun c1 => ?_) (fun c1 => ?_)
  · replace h := ite_t h c1
    obtain ⟨x2, ex2⟩ : ∃ z : Int32, z = (v3 + (1 : Int32)) := ⟨_, rfl⟩
    replace h := lt_get h x2 ex2
    refine lv_iinc (v := x2) (lv' := [(3, .int x2), (0, .ref (ad 9)), (2, .int v2), (4, .int v4)]) hx hb dX6_blockOf_60 hl (k := 2) rfl (by rw [ex2]; rfl) (by decide) rfl (fun ls hl => ?_)
    refine lv_goto (tgt := 6) hx hb dX6_blockOf_63 (by decide) ?_
    exact hr6 v2 x2 sg h _ _ _ hw (lv_sub hl [1, 2, 0] rfl)
  · replace h := ite_f h c1
    refine lv_iload_n hx hb dX6_blockOf_32 rfl (lv_at hl 1 rfl) ?_
    refine lv_iload hx hb dX6_blockOf_33 (lv_at hl 3 rfl) ?_
    obtain ⟨y3, sg4, hq5, h2⟩ := bnd2_some h
    replace h := h2
    clear h2
    obtain ⟨-, -, hmt6⟩ := hsp rfl
    refine r_cNi (As := [.int v2, .int v4]) (rest := []) C hw (mX11_isIn l D T ad lg H.size v2 v4 sg hq5) ⟨va_cnB (host := "PeckYard") 2 hts gX6_blockOf_X11_isIn_n46 rfl rfl rfl (hmt6 _ nw_X6_46) (hts _ kX6_blockOf_ini_X11) (by decide +kernel) ⟨Nat.le_of_ble_eq_true rfl, Nat.le_of_ble_eq_true rfl⟩, (hts _ kX6_blockOf_s46), trivial⟩ rfl hl.1 rfl (Nat.le_of_ble_eq_true rfl) dX6_blockOf_35 ⟨Nat.le_of_ble_eq_true rfl, Nat.le_of_ble_eq_true rfl⟩ (fun ad' H locs hp hw => ?_)
    subst hp
    refine W.widen (k := 0) (n := 0) (by decide) (by decide) ?_
    refine lv_if_eq (tgt := 54) hx hb dX6_blockOf_38 (by decide) (fun c7 => ?_) (fun c7 => ?_)
    · replace h := ite_t h c7
      exact tX6_blockOf_54 C hr6 hr20 v2 v3 v4 sg4 _ _ _ hw (lv_sub hl [0, 1, 2, 3] rfl) h
    · replace h := ite_f h c7
      refine lv_iload_n hx hb dX6_blockOf_41 rfl (lv_at hl 1 rfl) ?_
      refine lv_aload_n hx hb dX6_blockOf_42 rfl (lv_at hl 0 rfl) ?_
      refine r_getR (ci := 6) (C := RX6) (U := TX6) (N := 3) hx hb hts kX6_blockOf_iX6 hown hK hw 9 (by decide) rfl rfl 0 (by decide) 3 rfl (hts _ kX6_blockOf_f18) (fun _ h9 => h9) dX6_blockOf_43 ?_
      refine r_getR (ci := 8) (C := RX8) (U := TX8) (N := 10) hx hb hts kX6_blockOf_iX8 hown hK hw 3 (by decide) rfl rfl 8 (by decide) 22 rfl (hts _ kX6_blockOf_f31) (fun _ h9 => h9) dX6_blockOf_46 ?_
      refine lv_iload hx hb dX6_blockOf_49 (lv_at hl 3 rfl) ?_
      have hi8 := (gin_some h).1
      replace h := (gin_some h).2
      refine r_iald hx hb hK hw 22 0 12 (by decide) rfl rfl rfl hi8 dX6_blockOf_51 ?_
      refine lv_ior hx hb dX6_blockOf_52 ?_
      refine lv_topi (fun x9 ex9 => ?_)
      replace h := lt_get h x9 ex9
      refine lv_istore_n (lv' := [(2, .int x9), (0, .ref (ad 9)), (3, .int v3), (4, .int v4)]) hx hb dX6_blockOf_53 rfl hl (by decide) rfl (fun ls hl => ?_)
      exact tX6_blockOf_54 C hr6 hr20 x9 v3 v4 sg4 _ _ _ hw (lv_sub hl [1, 0, 2, 3] rfl) h
def LX6_blockOf_20 (r6 : (Int32 × Int32 × Sg) → Option (Int32 × Sg)) : (Int32 × Int32 × Int32 × Sg) → Option (Int32 × Sg) := loop (fun rec z => fX6_blockOf_20 r6 rec z.1 z.2.1 z.2.2.1 z.2.2.2)
theorem TX6_blockOf_20 (C : Cx p s m args meth c cX6_blockOf 5 RX6 wsX6_blockOf (some .int) D vwCl (tysC T) A true nwL) {ro : Int32} {so : Sg} {r6 : (Int32 × Int32 × Sg) → Option (Int32 × Sg)} (hr6 : ∀ (v2 : Int32) (v3 : Int32) (sg : Sg), r6 (v2, v3, sg) = some (ro, so) → ∀ (H : Heap) (locs : List Loc) (ls : Array Slot), WS ZC D vwCl T ad sg lg A s.heap H locs → lv_has ls 5 [(0, .ref (ad 9)), (2, .int v2), (3, .int v3)] → W p l e rmX6_blockOf s m args below meth c H locs 0 0 (MQ below (QI ZC D vwCl T (tysC T) A (fun z => ad = z) ro so lg) args s 0 0 A) (F0 m 6 ls [])) : ∀ (v2 : Int32) (v3 : Int32) (v4 : Int32) (sg : Sg), LX6_blockOf_20 r6 (v2, v3, v4, sg) = some (ro, so) → ∀ (H : Heap) (locs : List Loc) (ls : Array Slot), WS ZC D vwCl T ad sg lg A s.heap H locs → lv_has ls 5 [(0, .ref (ad 9)), (2, .int v2), (3, .int v3), (4, .int v4)] → W p l e rmX6_blockOf s m args below meth c H locs 0 0 (MQ below (QI ZC D vwCl T (tysC T) A (fun z => ad = z) ro so lg) args s 0 0 A) (F0 m 20 ls []) := by
  have key : ∀ z : (Int32 × Int32 × Int32 × Sg), LX6_blockOf_20 r6 z = some (ro, so) → ∀ (H : Heap) (locs : List Loc) (ls : Array Slot), WS ZC D vwCl T ad z.2.2.2 lg A s.heap H locs → lv_has ls 5 [(0, .ref (ad 9)), (2, .int z.1), (3, .int z.2.1), (4, .int z.2.2.1)] → W p l e rmX6_blockOf s m args below meth c H locs 0 0 (MQ below (QI ZC D vwCl T (tysC T) A (fun z => ad = z) ro so lg) args s 0 0 A) (F0 m 20 ls []) := by
    intro z h
    unfold LX6_blockOf_20 at h
    exact loop_ind (fun rec z => fX6_blockOf_20 r6 rec z.1 z.2.1 z.2.2.1 z.2.2.2) (y := (ro, so)) (P := fun z => ∀ (H : Heap) (locs : List Loc) (ls : Array Slot), WS ZC D vwCl T ad z.2.2.2 lg A s.heap H locs → lv_has ls 5 [(0, .ref (ad 9)), (2, .int z.1), (3, .int z.2.1), (4, .int z.2.2.1)] → W p l e rmX6_blockOf s m args below meth c H locs 0 0 (MQ below (QI ZC D vwCl T (tysC T) A (fun z => ad = z) ro so lg) args s 0 0 A) (F0 m 20 ls [])) (fun rec hrec z h H locs ls hw hl => tX6_blockOf_20 C hr6 (fun v2 v3 v4 sg => hrec (v2, v3, v4, sg)) z.1 z.2.1 z.2.2.1 z.2.2.2 H locs ls hw hl h) z h
  exact fun v2 v3 v4 sg => key (v2, v3, v4, sg)
def fX6_blockOf_6 (r6 : (Int32 × Int32 × Sg) → Option (Int32 × Sg)) (v2 : Int32) (v3 : Int32) (sg : Sg) : Option (Int32 × Sg) :=
  (if (sg 3 2) ≤ v3 then some (v2, sg) else LX6_blockOf_20 r6 (v2, v3, (0 : Int32), sg))
set_option maxHeartbeats 4000000 in
set_option maxRecDepth 100000 in
theorem tX6_blockOf_6 (C : Cx p s m args meth c cX6_blockOf 5 RX6 wsX6_blockOf (some .int) D vwCl (tysC T) A true nwL) {ro : Int32} {so : Sg} {r6 : (Int32 × Int32 × Sg) → Option (Int32 × Sg)} (hr6 : ∀ (v2 : Int32) (v3 : Int32) (sg : Sg), r6 (v2, v3, sg) = some (ro, so) → ∀ (H : Heap) (locs : List Loc) (ls : Array Slot), WS ZC D vwCl T ad sg lg A s.heap H locs → lv_has ls 5 [(0, .ref (ad 9)), (2, .int v2), (3, .int v3)] → W p l e rmX6_blockOf s m args below meth c H locs 0 0 (MQ below (QI ZC D vwCl T (tysC T) A (fun z => ad = z) ro so lg) args s 0 0 A) (F0 m 6 ls [])) : ∀ (v2 : Int32) (v3 : Int32) (sg : Sg), ∀ (H : Heap) (locs : List Loc) (ls : Array Slot), WS ZC D vwCl T ad sg lg A s.heap H locs → lv_has ls 5 [(0, .ref (ad 9)), (2, .int v2), (3, .int v3)] → fX6_blockOf_6 r6 v2 v3 sg = some (ro, so) → W p l e rmX6_blockOf s m args below meth c H locs 0 0 (MQ below (QI ZC D vwCl T (tysC T) A (fun z => ad = z) ro so lg) args s 0 0 A) (F0 m 6 ls []) := by
  obtain ⟨⟨hx, hb, hml, hown, hts⟩, hr, hlk, hK, hA, hsp⟩ := id C
  intro v2 v3 sg H locs ls hw hl h
  unfold fX6_blockOf_6 at h
  refine lv_iload_n hx hb dX6_blockOf_6 rfl (lv_at hl 2 rfl) ?_
  refine lv_aload_n hx hb dX6_blockOf_7 rfl (lv_at hl 0 rfl) ?_
  refine r_getR (ci := 6) (C := RX6) (U := TX6) (N := 3) hx hb hts kX6_blockOf_iX6 hown hK hw 9 (by decide) rfl rfl 0 (by decide) 3 rfl (hts _ kX6_blockOf_f18) (fun _ h9 => h9) dX6_blockOf_8 ?_
  refine r_getI (ci := 8) (C := RX8) (U := TX8) (N := 10) hx hb hts kX6_blockOf_iX8 hown hK hw 3 (by decide) rfl rfl 2 (by decide) rfl (hts _ kX6_blockOf_f27) (fun _ h9 => h9) dX6_blockOf_11 ?_
  refine lv_icmp_ge (tgt := 66) hx hb dX6_blockOf_14 (by decide) (fun c1 => ?_) (fun c1 => ?_)
  · replace h := ite_t h c1
    refine lv_iload_n hx hb dX6_blockOf_66 rfl (lv_at hl 1 rfl) ?_
    cases h
    exact r_iret C hw rfl (by decide) (by decide) dX6_blockOf_67
  · replace h := ite_f h c1
    refine lv_iconst (v := (0 : Int32)) hx hb dX6_blockOf_17 (by decide) ?_
    refine lv_istore (lv' := [(4, .int (0 : Int32)), (0, .ref (ad 9)), (2, .int v2), (3, .int v3)]) hx hb dX6_blockOf_18 hl (by decide) rfl (fun ls hl => ?_)
    exact TX6_blockOf_20 C hr6 v2 v3 (0 : Int32) sg h _ _ _ hw (lv_sub hl [1, 2, 3, 0] rfl)
def LX6_blockOf_6  : (Int32 × Int32 × Sg) → Option (Int32 × Sg) := loop (fun rec z => fX6_blockOf_6 rec z.1 z.2.1 z.2.2)
theorem TX6_blockOf_6 (C : Cx p s m args meth c cX6_blockOf 5 RX6 wsX6_blockOf (some .int) D vwCl (tysC T) A true nwL) {ro : Int32} {so : Sg}   : ∀ (v2 : Int32) (v3 : Int32) (sg : Sg), LX6_blockOf_6 (v2, v3, sg) = some (ro, so) → ∀ (H : Heap) (locs : List Loc) (ls : Array Slot), WS ZC D vwCl T ad sg lg A s.heap H locs → lv_has ls 5 [(0, .ref (ad 9)), (2, .int v2), (3, .int v3)] → W p l e rmX6_blockOf s m args below meth c H locs 0 0 (MQ below (QI ZC D vwCl T (tysC T) A (fun z => ad = z) ro so lg) args s 0 0 A) (F0 m 6 ls []) := by
  have key : ∀ z : (Int32 × Int32 × Sg), LX6_blockOf_6  z = some (ro, so) → ∀ (H : Heap) (locs : List Loc) (ls : Array Slot), WS ZC D vwCl T ad z.2.2 lg A s.heap H locs → lv_has ls 5 [(0, .ref (ad 9)), (2, .int z.1), (3, .int z.2.1)] → W p l e rmX6_blockOf s m args below meth c H locs 0 0 (MQ below (QI ZC D vwCl T (tysC T) A (fun z => ad = z) ro so lg) args s 0 0 A) (F0 m 6 ls []) := by
    intro z h
    unfold LX6_blockOf_6 at h
    exact loop_ind (fun rec z => fX6_blockOf_6 rec z.1 z.2.1 z.2.2) (y := (ro, so)) (P := fun z => ∀ (H : Heap) (locs : List Loc) (ls : Array Slot), WS ZC D vwCl T ad z.2.2 lg A s.heap H locs → lv_has ls 5 [(0, .ref (ad 9)), (2, .int z.1), (3, .int z.2.1)] → W p l e rmX6_blockOf s m args below meth c H locs 0 0 (MQ below (QI ZC D vwCl T (tysC T) A (fun z => ad = z) ro so lg) args s 0 0 A) (F0 m 6 ls [])) (fun rec hrec z h H locs ls hw hl => tX6_blockOf_6 C  (fun v2 v3 sg => hrec (v2, v3, sg)) z.1 z.2.1 z.2.2 H locs ls hw hl h) z h
  exact fun v2 v3 sg => key (v2, v3, sg)
def fX6_blockOf  (v1 : Int32) (sg : Sg) : Option (Int32 × Sg) :=
  lt ((1 : Int32) <<< (v1 &&& 31)) (fun x1 => LX6_blockOf_6 (x1, (0 : Int32), sg))
set_option maxHeartbeats 4000000 in
set_option maxRecDepth 100000 in
theorem tX6_blockOf_0 (C : Cx p s m args meth c cX6_blockOf 5 RX6 wsX6_blockOf (some .int) D vwCl (tysC T) A true nwL) {ro : Int32} {so : Sg}   : ∀ (v1 : Int32) (sg : Sg), ∀ (H : Heap) (locs : List Loc) (ls : Array Slot), WS ZC D vwCl T ad sg lg A s.heap H locs → lv_has ls 5 [(0, .ref (ad 9)), (1, .int v1)] → fX6_blockOf v1 sg = some (ro, so) → W p l e rmX6_blockOf s m args below meth c H locs 0 0 (MQ below (QI ZC D vwCl T (tysC T) A (fun z => ad = z) ro so lg) args s 0 0 A) (F0 m 0 ls []) := by
  obtain ⟨⟨hx, hb, hml, hown, hts⟩, hr, hlk, hK, hA, hsp⟩ := id C
  intro v1 sg H locs ls hw hl h
  unfold fX6_blockOf at h
  refine lv_iconst (v := (1 : Int32)) hx hb dX6_blockOf_0 (by decide) ?_
  refine lv_iload_n hx hb dX6_blockOf_1 rfl (lv_at hl 1 rfl) ?_
  refine lv_ishl hx hb dX6_blockOf_2 ?_
  refine lv_topi (fun x1 ex1 => ?_)
  replace h := lt_get h x1 ex1
  refine lv_istore_n (lv' := [(2, .int x1), (0, .ref (ad 9)), (1, .int v1)]) hx hb dX6_blockOf_3 rfl hl (by decide) rfl (fun ls hl => ?_)
  refine lv_iconst (v := (0 : Int32)) hx hb dX6_blockOf_4 (by decide) ?_
  refine lv_istore_n (lv' := [(3, .int (0 : Int32)), (2, .int x1), (0, .ref (ad 9)), (1, .int v1)]) hx hb dX6_blockOf_5 rfl hl (by decide) rfl (fun ls hl => ?_)
  exact TX6_blockOf_6 C x1 (0 : Int32) sg h _ _ _ hw (lv_sub hl [2, 1, 0] rfl)
theorem mX6_blockOf (l : Launch) (D : va_G) (T : Nat → ClassId) (ad : Nat → Nat) (lg : Lg) (sz : Nat)   (v1 : Int32) (sg : Sg) {ro : Int32} {so : Sg} (h : fX6_blockOf v1 sg = some (ro, so)) : Met l yX6_blockOf wsX6_blockOf rmX6_blockOf (PreZ ZC D vwCl T (tysC T) ad sg lg true nwL [.ref (ad 9), .int v1] sz) (QI ZC D vwCl T (tysC T) (va_A (zwd ZC T ad sg lg) sz) (fun z => ad = z) ro so lg) 0 0 (va_A (zwd ZC T ad sg lg) sz) :=
  metZ [.ref (ad 9), .int v1] sz (by decide) rfl (Nat.le_of_ble_eq_true rfl) (fun p e s m below meth c ls C hw hl => tX6_blockOf_0 C v1 sg _ _ _ hw hl h)
-- PeckYard$Leads.followAsking()V
def rmX6_followAsking : Room := { frames := 2, cells := 0, slots := 0, locals := 47 }
theorem kX6_followAsking_f18 : Cond.fieldLink RX6 18 "PeckYard$Leads" "muster" "LPeckYard$Muster;" ∈ wsX6_followAsking := by decide +kernel
theorem kX6_followAsking_iX6 : ∀ w ∈ u_ws RX6 TX6 3, w ∈ wsX6_followAsking := by decide +kernel
theorem kX6_followAsking_f27 : Cond.fieldLink RX6 27 "PeckYard$Muster" "size" "I" ∈ wsX6_followAsking := by decide +kernel
theorem kX6_followAsking_iX8 : ∀ w ∈ u_ws RX8 TX8 10, w ∈ wsX6_followAsking := by decide +kernel
theorem kX6_followAsking_f15 : Cond.fieldLink RX6 15 "PeckYard$Leads" "blocks" "[I" ∈ wsX6_followAsking := by decide +kernel
theorem kX6_followAsking_f9 : Cond.fieldLink RX6 9 "PeckYard$Leads" "leads" "[I" ∈ wsX6_followAsking := by decide +kernel
theorem kX6_followAsking_f52 : Cond.fieldLink RX6 52 "PeckYard$Muster" "below" "[I" ∈ wsX6_followAsking := by decide +kernel
def fX6_followAsking_58 (r47 : (Int32 × Sg) → Option (Sg)) (r58 : (Int32 × Int32 × Int32 × Sg) → Option (Sg)) (v1 : Int32) (v2 : Int32) (v3 : Int32) (sg : Sg) : Option (Sg) :=
  (if (sg 3 2) ≤ v3 then (if v2 = 0 then some sg else lt (v1 + (1 : Int32)) (fun x3 => r47 (x3, sg))) else bnd2 (fX6_leadOn v3 sg) (fun y4 sg5 => lt (v2 ||| y4) (fun x7 => gin v3 12 (bnd2 (fX6_leadAsBlock (sg5 46 v3.toNatClampNeg) sg5) (fun y9 sg10 => lt (x7 ||| y9) (fun x12 => lt (v3 + (1 : Int32)) (fun x13 => r58 (v1, x12, x13, sg10))))))))
set_option maxHeartbeats 4000000 in
set_option maxRecDepth 100000 in
theorem tX6_followAsking_58 (C : Cx p s m args meth c cX6_followAsking 4 RX6 wsX6_followAsking none D vwCl (tysC T) A true nwL) {so : Sg} {r47 : (Int32 × Sg) → Option (Sg)} {r58 : (Int32 × Int32 × Int32 × Sg) → Option (Sg)} (hr47 : ∀ (v1 : Int32) (sg : Sg), r47 (v1, sg) = some so → ∀ (H : Heap) (locs : List Loc) (ls : Array Slot), WS ZC D vwCl T ad sg lg A s.heap H locs → lv_has ls 4 [(0, .ref (ad 9)), (1, .int v1)] → W p l e rmX6_followAsking s m args below meth c H locs 0 0 (MQ below (QV ZC D vwCl T (tysC T) A (fun z => ad = z) so lg) args s 0 0 A) (F0 m 47 ls [])) (hr58 : ∀ (v1 : Int32) (v2 : Int32) (v3 : Int32) (sg : Sg), r58 (v1, v2, v3, sg) = some so → ∀ (H : Heap) (locs : List Loc) (ls : Array Slot), WS ZC D vwCl T ad sg lg A s.heap H locs → lv_has ls 4 [(0, .ref (ad 9)), (1, .int v1), (2, .int v2), (3, .int v3)] → W p l e rmX6_followAsking s m args below meth c H locs 0 0 (MQ below (QV ZC D vwCl T (tysC T) A (fun z => ad = z) so lg) args s 0 0 A) (F0 m 58 ls [])) : ∀ (v1 : Int32) (v2 : Int32) (v3 : Int32) (sg : Sg), ∀ (H : Heap) (locs : List Loc) (ls : Array Slot), WS ZC D vwCl T ad sg lg A s.heap H locs → lv_has ls 4 [(0, .ref (ad 9)), (1, .int v1), (2, .int v2), (3, .int v3)] → fX6_followAsking_58 r47 r58 v1 v2 v3 sg = some so → W p l e rmX6_followAsking s m args below meth c H locs 0 0 (MQ below (QV ZC D vwCl T (tysC T) A (fun z => ad = z) so lg) args s 0 0 A) (F0 m 58 ls []) := by
  obtain ⟨⟨hx, hb, hml, hown, hts⟩, hr, hlk, hK, hA, hsp⟩ := id C
  intro v1 v2 v3 sg H locs ls hw hl h
  unfold fX6_followAsking_58 at h
  refine lv_iload_n hx hb dX6_followAsking_58 rfl (lv_at hl 3 rfl) ?_
  refine lv_aload_n hx hb dX6_followAsking_59 rfl (lv_at hl 0 rfl) ?_
  refine r_getR (ci := 6) (C := RX6) (U := TX6) (N := 3) hx hb hts kX6_followAsking_iX6 hown hK hw 9 (by decide) rfl rfl 0 (by decide) 3 rfl (hts _ kX6_followAsking_f18) (fun _ h9 => h9) dX6_followAsking_60 ?_
  refine r_getI (ci := 8) (C := RX8) (U := TX8) (N := 10) hx hb hts kX6_followAsking_iX8 hown hK hw 3 (by decide) rfl rfl 2 (by decide) rfl (hts _ kX6_followAsking_f27) (fun _ h9 => h9) dX6_followAsking_63 ?_
  refine lv_icmp_ge (tgt := 96) hx hb dX6_followAsking_66 (by decide) (fun c1 => ?_) (fun c1 => ?_)
  · replace h := ite_t h c1
    refine lv_iload_n hx hb dX6_followAsking_96 rfl (lv_at hl 2 rfl) ?_
    refine lv_if_ne (tgt := 101) hx hb dX6_followAsking_97 (by decide) (fun c2 => ?_) (fun c2 => ?_)
    · replace h := ite_f h c2
      obtain ⟨x3, ex3⟩ : ∃ z : Int32, z = (v1 + (1 : Int32)) := ⟨_, rfl⟩
      replace h := lt_get h x3 ex3
      refine lv_iinc (v := x3) (lv' := [(1, .int x3), (0, .ref (ad 9)), (2, .int v2), (3, .int v3)]) hx hb dX6_followAsking_101 hl (k := 1) rfl (by rw [ex3]; rfl) (by decide) rfl (fun ls hl => ?_)
      refine lv_goto (tgt := 47) hx hb dX6_followAsking_104 (by decide) ?_
      exact hr47 x3 sg h _ _ _ hw (lv_sub hl [1, 0] rfl)
    · replace h := ite_t h c2
      cases h
      exact r_vret C hw rfl (by decide) (by decide) dX6_followAsking_100
  · replace h := ite_f h c1
    refine lv_iload_n hx hb dX6_followAsking_69 rfl (lv_at hl 2 rfl) ?_
    refine lv_aload_n hx hb dX6_followAsking_70 rfl (lv_at hl 0 rfl) ?_
    refine lv_iload_n hx hb dX6_followAsking_71 rfl (lv_at hl 3 rfl) ?_
    obtain ⟨y4, sg5, hq6, h2⟩ := bnd2_some h
    replace h := h2
    clear h2
    refine r_cVi (As := [.int v3]) (rest := [.int v2]) C hw 9 (by decide) (ci := 6) rfl rfl (mX6_leadOn l D T ad lg H.size v3 sg hq6) (cwV 1 hts gX6_followAsking_X6_leadOn rfl rfl rfl (by decide +kernel) ⟨Nat.le_of_ble_eq_true rfl, Nat.le_of_ble_eq_true rfl⟩) rfl hl.1 rfl (Nat.le_of_ble_eq_true rfl) dX6_followAsking_72 ⟨Nat.le_of_ble_eq_true rfl, Nat.le_of_ble_eq_true rfl⟩ (fun ad' H locs hp hw => ?_)
    subst hp
    refine W.widen (k := 0) (n := 0) (by decide) (by decide) ?_
    refine lv_ior hx hb dX6_followAsking_75 ?_
    refine lv_topi (fun x7 ex7 => ?_)
    replace h := lt_get h x7 ex7
    refine lv_istore_n (lv' := [(2, .int x7), (0, .ref (ad 9)), (1, .int v1), (3, .int v3)]) hx hb dX6_followAsking_76 rfl hl (by decide) rfl (fun ls hl => ?_)
    refine lv_iload_n hx hb dX6_followAsking_77 rfl (lv_at hl 0 rfl) ?_
    refine lv_aload_n hx hb dX6_followAsking_78 rfl (lv_at hl 1 rfl) ?_
    refine lv_aload_n hx hb dX6_followAsking_79 rfl (lv_at hl 1 rfl) ?_
    refine r_getR (ci := 6) (C := RX6) (U := TX6) (N := 3) hx hb hts kX6_followAsking_iX6 hown hK hw 9 (by decide) rfl rfl 2 (by decide) 46 rfl (hts _ kX6_followAsking_f15) (fun _ h9 => h9) dX6_followAsking_80 ?_
    refine lv_iload_n hx hb dX6_followAsking_83 rfl (lv_at hl 3 rfl) ?_
    have hi8 := (gin_some h).1
    replace h := (gin_some h).2
    refine r_iald hx hb hK hw 46 0 12 (by decide) rfl rfl rfl hi8 dX6_followAsking_84 ?_
    obtain ⟨y9, sg10, hq11, h2⟩ := bnd2_some h
    replace h := h2
    clear h2
    refine r_cVi (As := [.int (sg5 46 v3.toNatClampNeg)]) (rest := [.int x7]) C hw 9 (by decide) (ci := 6) rfl rfl (mX6_leadAsBlock l D T ad lg H.size (sg5 46 v3.toNatClampNeg) sg5 hq11) (cwV 1 hts gX6_followAsking_X6_leadAsBlock rfl rfl rfl (by decide +kernel) ⟨Nat.le_of_ble_eq_true rfl, Nat.le_of_ble_eq_true rfl⟩) rfl hl.1 rfl (Nat.le_of_ble_eq_true rfl) dX6_followAsking_85 ⟨Nat.le_of_ble_eq_true rfl, Nat.le_of_ble_eq_true rfl⟩ (fun ad' H locs hp hw => ?_)
    subst hp
    refine W.widen (k := 0) (n := 0) (by decide) (by decide) ?_
    refine lv_ior hx hb dX6_followAsking_88 ?_
    refine lv_topi (fun x12 ex12 => ?_)
    replace h := lt_get h x12 ex12
    refine lv_istore_n (lv' := [(2, .int x12), (0, .ref (ad 9)), (1, .int v1), (3, .int v3)]) hx hb dX6_followAsking_89 rfl hl (by decide) rfl (fun ls hl => ?_)
    obtain ⟨x13, ex13⟩ : ∃ z : Int32, z = (v3 + (1 : Int32)) := ⟨_, rfl⟩
    replace h := lt_get h x13 ex13
    refine lv_iinc (v := x13) (lv' := [(3, .int x13), (2, .int x12), (0, .ref (ad 9)), (1, .int v1)]) hx hb dX6_followAsking_90 hl (k := 3) rfl (by rw [ex13]; rfl) (by decide) rfl (fun ls hl => ?_)
    refine lv_goto (tgt := 58) hx hb dX6_followAsking_93 (by decide) ?_
    exact hr58 v1 x12 x13 sg10 h _ _ _ hw (lv_sub hl [2, 3, 1, 0] rfl)
def LX6_followAsking_58 (r47 : (Int32 × Sg) → Option (Sg)) : (Int32 × Int32 × Int32 × Sg) → Option (Sg) := loop (fun rec z => fX6_followAsking_58 r47 rec z.1 z.2.1 z.2.2.1 z.2.2.2)
theorem TX6_followAsking_58 (C : Cx p s m args meth c cX6_followAsking 4 RX6 wsX6_followAsking none D vwCl (tysC T) A true nwL) {so : Sg} {r47 : (Int32 × Sg) → Option (Sg)} (hr47 : ∀ (v1 : Int32) (sg : Sg), r47 (v1, sg) = some so → ∀ (H : Heap) (locs : List Loc) (ls : Array Slot), WS ZC D vwCl T ad sg lg A s.heap H locs → lv_has ls 4 [(0, .ref (ad 9)), (1, .int v1)] → W p l e rmX6_followAsking s m args below meth c H locs 0 0 (MQ below (QV ZC D vwCl T (tysC T) A (fun z => ad = z) so lg) args s 0 0 A) (F0 m 47 ls [])) : ∀ (v1 : Int32) (v2 : Int32) (v3 : Int32) (sg : Sg), LX6_followAsking_58 r47 (v1, v2, v3, sg) = some so → ∀ (H : Heap) (locs : List Loc) (ls : Array Slot), WS ZC D vwCl T ad sg lg A s.heap H locs → lv_has ls 4 [(0, .ref (ad 9)), (1, .int v1), (2, .int v2), (3, .int v3)] → W p l e rmX6_followAsking s m args below meth c H locs 0 0 (MQ below (QV ZC D vwCl T (tysC T) A (fun z => ad = z) so lg) args s 0 0 A) (F0 m 58 ls []) := by
  have key : ∀ z : (Int32 × Int32 × Int32 × Sg), LX6_followAsking_58 r47 z = some so → ∀ (H : Heap) (locs : List Loc) (ls : Array Slot), WS ZC D vwCl T ad z.2.2.2 lg A s.heap H locs → lv_has ls 4 [(0, .ref (ad 9)), (1, .int z.1), (2, .int z.2.1), (3, .int z.2.2.1)] → W p l e rmX6_followAsking s m args below meth c H locs 0 0 (MQ below (QV ZC D vwCl T (tysC T) A (fun z => ad = z) so lg) args s 0 0 A) (F0 m 58 ls []) := by
    intro z h
    unfold LX6_followAsking_58 at h
    exact loop_ind (fun rec z => fX6_followAsking_58 r47 rec z.1 z.2.1 z.2.2.1 z.2.2.2) (y := so) (P := fun z => ∀ (H : Heap) (locs : List Loc) (ls : Array Slot), WS ZC D vwCl T ad z.2.2.2 lg A s.heap H locs → lv_has ls 4 [(0, .ref (ad 9)), (1, .int z.1), (2, .int z.2.1), (3, .int z.2.2.1)] → W p l e rmX6_followAsking s m args below meth c H locs 0 0 (MQ below (QV ZC D vwCl T (tysC T) A (fun z => ad = z) so lg) args s 0 0 A) (F0 m 58 ls [])) (fun rec hrec z h H locs ls hw hl => tX6_followAsking_58 C hr47 (fun v1 v2 v3 sg => hrec (v1, v2, v3, sg)) z.1 z.2.1 z.2.2.1 z.2.2.2 H locs ls hw hl h) z h
  exact fun v1 v2 v3 sg => key (v1, v2, v3, sg)
def fX6_followAsking_47 (r47 : (Int32 × Sg) → Option (Sg)) (v1 : Int32) (sg : Sg) : Option (Sg) :=
  (if (145 : Int32) ≤ v1 then some sg else LX6_followAsking_58 r47 (v1, (0 : Int32), (0 : Int32), sg))
set_option maxHeartbeats 4000000 in
set_option maxRecDepth 100000 in
theorem tX6_followAsking_47 (C : Cx p s m args meth c cX6_followAsking 4 RX6 wsX6_followAsking none D vwCl (tysC T) A true nwL) {so : Sg} {r47 : (Int32 × Sg) → Option (Sg)} (hr47 : ∀ (v1 : Int32) (sg : Sg), r47 (v1, sg) = some so → ∀ (H : Heap) (locs : List Loc) (ls : Array Slot), WS ZC D vwCl T ad sg lg A s.heap H locs → lv_has ls 4 [(0, .ref (ad 9)), (1, .int v1)] → W p l e rmX6_followAsking s m args below meth c H locs 0 0 (MQ below (QV ZC D vwCl T (tysC T) A (fun z => ad = z) so lg) args s 0 0 A) (F0 m 47 ls [])) : ∀ (v1 : Int32) (sg : Sg), ∀ (H : Heap) (locs : List Loc) (ls : Array Slot), WS ZC D vwCl T ad sg lg A s.heap H locs → lv_has ls 4 [(0, .ref (ad 9)), (1, .int v1)] → fX6_followAsking_47 r47 v1 sg = some so → W p l e rmX6_followAsking s m args below meth c H locs 0 0 (MQ below (QV ZC D vwCl T (tysC T) A (fun z => ad = z) so lg) args s 0 0 A) (F0 m 47 ls []) := by
  obtain ⟨⟨hx, hb, hml, hown, hts⟩, hr, hlk, hK, hA, hsp⟩ := id C
  intro v1 sg H locs ls hw hl h
  unfold fX6_followAsking_47 at h
  refine lv_iload_n hx hb dX6_followAsking_47 rfl (lv_at hl 1 rfl) ?_
  refine lv_sipush (v := (145 : Int32)) hx hb dX6_followAsking_48 (by decide) ?_
  refine lv_icmp_ge (tgt := 107) hx hb dX6_followAsking_51 (by decide) (fun c1 => ?_) (fun c1 => ?_)
  · replace h := ite_t h c1
    cases h
    exact r_vret C hw rfl (by decide) (by decide) dX6_followAsking_107
  · replace h := ite_f h c1
    refine lv_iconst (v := (0 : Int32)) hx hb dX6_followAsking_54 (by decide) ?_
    refine lv_istore_n (lv' := [(2, .int (0 : Int32)), (0, .ref (ad 9)), (1, .int v1)]) hx hb dX6_followAsking_55 rfl hl (by decide) rfl (fun ls hl => ?_)
    refine lv_iconst (v := (0 : Int32)) hx hb dX6_followAsking_56 (by decide) ?_
    refine lv_istore_n (lv' := [(3, .int (0 : Int32)), (2, .int (0 : Int32)), (0, .ref (ad 9)), (1, .int v1)]) hx hb dX6_followAsking_57 rfl hl (by decide) rfl (fun ls hl => ?_)
    exact TX6_followAsking_58 C hr47 v1 (0 : Int32) (0 : Int32) sg h _ _ _ hw (lv_sub hl [2, 3, 1, 0] rfl)
def LX6_followAsking_47  : (Int32 × Sg) → Option (Sg) := loop (fun rec z => fX6_followAsking_47 rec z.1 z.2)
theorem TX6_followAsking_47 (C : Cx p s m args meth c cX6_followAsking 4 RX6 wsX6_followAsking none D vwCl (tysC T) A true nwL) {so : Sg}   : ∀ (v1 : Int32) (sg : Sg), LX6_followAsking_47 (v1, sg) = some so → ∀ (H : Heap) (locs : List Loc) (ls : Array Slot), WS ZC D vwCl T ad sg lg A s.heap H locs → lv_has ls 4 [(0, .ref (ad 9)), (1, .int v1)] → W p l e rmX6_followAsking s m args below meth c H locs 0 0 (MQ below (QV ZC D vwCl T (tysC T) A (fun z => ad = z) so lg) args s 0 0 A) (F0 m 47 ls []) := by
  have key : ∀ z : (Int32 × Sg), LX6_followAsking_47  z = some so → ∀ (H : Heap) (locs : List Loc) (ls : Array Slot), WS ZC D vwCl T ad z.2 lg A s.heap H locs → lv_has ls 4 [(0, .ref (ad 9)), (1, .int z.1)] → W p l e rmX6_followAsking s m args below meth c H locs 0 0 (MQ below (QV ZC D vwCl T (tysC T) A (fun z => ad = z) so lg) args s 0 0 A) (F0 m 47 ls []) := by
    intro z h
    unfold LX6_followAsking_47 at h
    exact loop_ind (fun rec z => fX6_followAsking_47 rec z.1 z.2) (y := so) (P := fun z => ∀ (H : Heap) (locs : List Loc) (ls : Array Slot), WS ZC D vwCl T ad z.2 lg A s.heap H locs → lv_has ls 4 [(0, .ref (ad 9)), (1, .int z.1)] → W p l e rmX6_followAsking s m args below meth c H locs 0 0 (MQ below (QV ZC D vwCl T (tysC T) A (fun z => ad = z) so lg) args s 0 0 A) (F0 m 47 ls [])) (fun rec hrec z h H locs ls hw hl => tX6_followAsking_47 C  (fun v1 sg => hrec (v1, sg)) z.1 z.2 H locs ls hw hl h) z h
  exact fun v1 sg => key (v1, sg)
def fX6_followAsking_2 (r2 : (Int32 × Sg) → Option (Sg)) (v1 : Int32) (sg : Sg) : Option (Sg) :=
  (if (sg 3 2) ≤ v1 then LX6_followAsking_47 ((0 : Int32), sg) else gin v1 12 (lt (sg 21 v1.toNatClampNeg) (fun x3 => gin v1 12 (lt (up2 sg 45 v1.toNatClampNeg x3) (fun sg5 => bnd2 (fX6_blockOf v1 sg5) (fun y6 sg7 => gin v1 12 (lt (up2 sg7 46 v1.toNatClampNeg y6) (fun sg10 => lt (v1 + (1 : Int32)) (fun x11 => r2 (x11, sg10))))))))))
set_option maxHeartbeats 4000000 in
set_option maxRecDepth 100000 in
theorem tX6_followAsking_2 (C : Cx p s m args meth c cX6_followAsking 4 RX6 wsX6_followAsking none D vwCl (tysC T) A true nwL) {so : Sg} {r2 : (Int32 × Sg) → Option (Sg)} (hr2 : ∀ (v1 : Int32) (sg : Sg), r2 (v1, sg) = some so → ∀ (H : Heap) (locs : List Loc) (ls : Array Slot), WS ZC D vwCl T ad sg lg A s.heap H locs → lv_has ls 4 [(0, .ref (ad 9)), (1, .int v1)] → W p l e rmX6_followAsking s m args below meth c H locs 0 0 (MQ below (QV ZC D vwCl T (tysC T) A (fun z => ad = z) so lg) args s 0 0 A) (F0 m 2 ls [])) : ∀ (v1 : Int32) (sg : Sg), ∀ (H : Heap) (locs : List Loc) (ls : Array Slot), WS ZC D vwCl T ad sg lg A s.heap H locs → lv_has ls 4 [(0, .ref (ad 9)), (1, .int v1)] → fX6_followAsking_2 r2 v1 sg = some so → W p l e rmX6_followAsking s m args below meth c H locs 0 0 (MQ below (QV ZC D vwCl T (tysC T) A (fun z => ad = z) so lg) args s 0 0 A) (F0 m 2 ls []) := by
  obtain ⟨⟨hx, hb, hml, hown, hts⟩, hr, hlk, hK, hA, hsp⟩ := id C
  intro v1 sg H locs ls hw hl h
  unfold fX6_followAsking_2 at h
  refine lv_iload_n hx hb dX6_followAsking_2 rfl (lv_at hl 1 rfl) ?_
  refine lv_aload_n hx hb dX6_followAsking_3 rfl (lv_at hl 0 rfl) ?_
  refine r_getR (ci := 6) (C := RX6) (U := TX6) (N := 3) hx hb hts kX6_followAsking_iX6 hown hK hw 9 (by decide) rfl rfl 0 (by decide) 3 rfl (hts _ kX6_followAsking_f18) (fun _ h9 => h9) dX6_followAsking_4 ?_
  refine r_getI (ci := 8) (C := RX8) (U := TX8) (N := 10) hx hb hts kX6_followAsking_iX8 hown hK hw 3 (by decide) rfl rfl 2 (by decide) rfl (hts _ kX6_followAsking_f27) (fun _ h9 => h9) dX6_followAsking_7 ?_
  refine lv_icmp_ge (tgt := 45) hx hb dX6_followAsking_10 (by decide) (fun c1 => ?_) (fun c1 => ?_)
  · replace h := ite_t h c1
    refine lv_iconst (v := (0 : Int32)) hx hb dX6_followAsking_45 (by decide) ?_
    refine lv_istore_n (lv' := [(1, .int (0 : Int32)), (0, .ref (ad 9))]) hx hb dX6_followAsking_46 rfl hl (by decide) rfl (fun ls hl => ?_)
    exact TX6_followAsking_47 C (0 : Int32) sg h _ _ _ hw (lv_sub hl [1, 0] rfl)
  · replace h := ite_f h c1
    refine lv_aload_n hx hb dX6_followAsking_13 rfl (lv_at hl 0 rfl) ?_
    refine r_getR (ci := 6) (C := RX6) (U := TX6) (N := 3) hx hb hts kX6_followAsking_iX6 hown hK hw 9 (by decide) rfl rfl 1 (by decide) 45 rfl (hts _ kX6_followAsking_f9) (fun _ h9 => h9) dX6_followAsking_14 ?_
    refine lv_iload_n hx hb dX6_followAsking_17 rfl (lv_at hl 1 rfl) ?_
    refine lv_aload_n hx hb dX6_followAsking_18 rfl (lv_at hl 0 rfl) ?_
    refine r_getR (ci := 6) (C := RX6) (U := TX6) (N := 3) hx hb hts kX6_followAsking_iX6 hown hK hw 9 (by decide) rfl rfl 0 (by decide) 3 rfl (hts _ kX6_followAsking_f18) (fun _ h9 => h9) dX6_followAsking_19 ?_
    refine r_getR (ci := 8) (C := RX8) (U := TX8) (N := 10) hx hb hts kX6_followAsking_iX8 hown hK hw 3 (by decide) rfl rfl 7 (by decide) 21 rfl (hts _ kX6_followAsking_f52) (fun _ h9 => h9) dX6_followAsking_22 ?_
    refine lv_iload_n hx hb dX6_followAsking_25 rfl (lv_at hl 1 rfl) ?_
    have hi2 := (gin_some h).1
    replace h := (gin_some h).2
    refine r_iald hx hb hK hw 21 0 12 (by decide) rfl rfl rfl hi2 dX6_followAsking_26 ?_
    refine lv_topi (fun x3 ex3 => ?_)
    replace h := lt_get h x3 ex3
    have hi4 := (gin_some h).1
    replace h := (gin_some h).2
    refine r_iast ZC_ok hx hb hK hw 45 0 12 (by decide) rfl rfl rfl hi4 dX6_followAsking_27 (fun H locs sg5 esg5 hw => ?_)
    replace h := lt_get h sg5 esg5
    refine lv_aload_n hx hb dX6_followAsking_28 rfl (lv_at hl 0 rfl) ?_
    refine r_getR (ci := 6) (C := RX6) (U := TX6) (N := 3) hx hb hts kX6_followAsking_iX6 hown hK hw 9 (by decide) rfl rfl 2 (by decide) 46 rfl (hts _ kX6_followAsking_f15) (fun _ h9 => h9) dX6_followAsking_29 ?_
    refine lv_iload_n hx hb dX6_followAsking_32 rfl (lv_at hl 1 rfl) ?_
    refine lv_aload_n hx hb dX6_followAsking_33 rfl (lv_at hl 0 rfl) ?_
    refine lv_iload_n hx hb dX6_followAsking_34 rfl (lv_at hl 1 rfl) ?_
    obtain ⟨y6, sg7, hq8, h2⟩ := bnd2_some h
    replace h := h2
    clear h2
    refine r_cVi (As := [.int v1]) (rest := [.int v1, .ref (ad 46)]) C hw 9 (by decide) (ci := 6) rfl rfl (mX6_blockOf l D T ad lg H.size v1 sg5 hq8) (cwV 1 hts gX6_followAsking_X6_blockOf rfl rfl rfl (by decide +kernel) ⟨Nat.le_of_ble_eq_true rfl, Nat.le_of_ble_eq_true rfl⟩) rfl hl.1 rfl (Nat.le_of_ble_eq_true rfl) dX6_followAsking_35 ⟨Nat.le_of_ble_eq_true rfl, Nat.le_of_ble_eq_true rfl⟩ (fun ad' H locs hp hw => ?_)
    subst hp
    refine W.widen (k := 0) (n := 0) (by decide) (by decide) ?_
    have hi9 := (gin_some h).1
    replace h := (gin_some h).2
    refine r_iast ZC_ok hx hb hK hw 46 0 12 (by decide) rfl rfl rfl hi9 dX6_followAsking_38 (fun H locs sg10 esg10 hw => ?_)
    replace h := lt_get h sg10 esg10
    obtain ⟨x11, ex11⟩ : ∃ z : Int32, z = (v1 + (1 : Int32)) := ⟨_, rfl⟩
    replace h := lt_get h x11 ex11
    refine lv_iinc (v := x11) (lv' := [(1, .int x11), (0, .ref (ad 9))]) hx hb dX6_followAsking_39 hl (k := 1) rfl (by rw [ex11]; rfl) (by decide) rfl (fun ls hl => ?_)
    refine lv_goto (tgt := 2) hx hb dX6_followAsking_42 (by decide) ?_
    exact hr2 x11 sg10 h _ _ _ hw (lv_sub hl [1, 0] rfl)
def LX6_followAsking_2  : (Int32 × Sg) → Option (Sg) := loop (fun rec z => fX6_followAsking_2 rec z.1 z.2)
theorem TX6_followAsking_2 (C : Cx p s m args meth c cX6_followAsking 4 RX6 wsX6_followAsking none D vwCl (tysC T) A true nwL) {so : Sg}   : ∀ (v1 : Int32) (sg : Sg), LX6_followAsking_2 (v1, sg) = some so → ∀ (H : Heap) (locs : List Loc) (ls : Array Slot), WS ZC D vwCl T ad sg lg A s.heap H locs → lv_has ls 4 [(0, .ref (ad 9)), (1, .int v1)] → W p l e rmX6_followAsking s m args below meth c H locs 0 0 (MQ below (QV ZC D vwCl T (tysC T) A (fun z => ad = z) so lg) args s 0 0 A) (F0 m 2 ls []) := by
  have key : ∀ z : (Int32 × Sg), LX6_followAsking_2  z = some so → ∀ (H : Heap) (locs : List Loc) (ls : Array Slot), WS ZC D vwCl T ad z.2 lg A s.heap H locs → lv_has ls 4 [(0, .ref (ad 9)), (1, .int z.1)] → W p l e rmX6_followAsking s m args below meth c H locs 0 0 (MQ below (QV ZC D vwCl T (tysC T) A (fun z => ad = z) so lg) args s 0 0 A) (F0 m 2 ls []) := by
    intro z h
    unfold LX6_followAsking_2 at h
    exact loop_ind (fun rec z => fX6_followAsking_2 rec z.1 z.2) (y := so) (P := fun z => ∀ (H : Heap) (locs : List Loc) (ls : Array Slot), WS ZC D vwCl T ad z.2 lg A s.heap H locs → lv_has ls 4 [(0, .ref (ad 9)), (1, .int z.1)] → W p l e rmX6_followAsking s m args below meth c H locs 0 0 (MQ below (QV ZC D vwCl T (tysC T) A (fun z => ad = z) so lg) args s 0 0 A) (F0 m 2 ls [])) (fun rec hrec z h H locs ls hw hl => tX6_followAsking_2 C  (fun v1 sg => hrec (v1, sg)) z.1 z.2 H locs ls hw hl h) z h
  exact fun v1 sg => key (v1, sg)
def fX6_followAsking  (sg : Sg) : Option (Sg) :=
  LX6_followAsking_2 ((0 : Int32), sg)
set_option maxHeartbeats 4000000 in
set_option maxRecDepth 100000 in
theorem tX6_followAsking_0 (C : Cx p s m args meth c cX6_followAsking 4 RX6 wsX6_followAsking none D vwCl (tysC T) A true nwL) {so : Sg}   : ∀ (sg : Sg), ∀ (H : Heap) (locs : List Loc) (ls : Array Slot), WS ZC D vwCl T ad sg lg A s.heap H locs → lv_has ls 4 [(0, .ref (ad 9))] → fX6_followAsking sg = some so → W p l e rmX6_followAsking s m args below meth c H locs 0 0 (MQ below (QV ZC D vwCl T (tysC T) A (fun z => ad = z) so lg) args s 0 0 A) (F0 m 0 ls []) := by
  obtain ⟨⟨hx, hb, hml, hown, hts⟩, hr, hlk, hK, hA, hsp⟩ := id C
  intro sg H locs ls hw hl h
  unfold fX6_followAsking at h
  refine lv_iconst (v := (0 : Int32)) hx hb dX6_followAsking_0 (by decide) ?_
  refine lv_istore_n (lv' := [(1, .int (0 : Int32)), (0, .ref (ad 9))]) hx hb dX6_followAsking_1 rfl hl (by decide) rfl (fun ls hl => ?_)
  exact TX6_followAsking_2 C (0 : Int32) sg h _ _ _ hw (lv_sub hl [1, 0] rfl)
theorem mX6_followAsking (l : Launch) (D : va_G) (T : Nat → ClassId) (ad : Nat → Nat) (lg : Lg) (sz : Nat)   (sg : Sg) {so : Sg} (h : fX6_followAsking sg = some so) : Met l yX6_followAsking wsX6_followAsking rmX6_followAsking (PreZ ZC D vwCl T (tysC T) ad sg lg true nwL [.ref (ad 9)] sz) (QV ZC D vwCl T (tysC T) (va_A (zwd ZC T ad sg lg) sz) (fun z => ad = z) so lg) 0 0 (va_A (zwd ZC T ad sg lg) sz) :=
  metZ [.ref (ad 9)] sz (by decide) rfl (Nat.le_of_ble_eq_true rfl) (fun p e s m below meth c ls C hw hl => tX6_followAsking_0 C sg _ _ _ hw hl h)
end ZC
