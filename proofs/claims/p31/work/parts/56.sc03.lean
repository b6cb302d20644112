set_option maxHeartbeats 4000000 in
theorem sX9_bringInHand_106 {s0 : Sg} {r14 : (Int64 × Int32 × Int32 × Sg) → Option (Sg)} {r40 : (Int64 × Int32 × Int32 × Int32 × Int32 × Int32 × Sg) → Option (Sg)} {v4 : Int64} {v6 : Int32} {v7 : Int32} {v8 : Int32} {v9 : Int32} {v10 : Int32} {sg : Sg} (hS : StC MX9_bringInHand s0 sg) (v6l : 0 ≤ v6.toInt) (v6h : v6.toInt ≤ 4095) (v7l : 0 ≤ v7.toInt) (v7h : v7.toInt ≤ 11) (v8l : 0 ≤ v8.toInt) (v8h : v8.toInt ≤ 4095) (v9l : (-1) ≤ v9.toInt) (v9h : v9.toInt ≤ 11) (v10l : 0 ≤ v10.toInt) (v10h : v10.toInt ≤ 11) (xa : v6.toInt < pw sg) (xb : pw sg ≤ (sg 99 63).toInt) (xc : pw sg ≤ (sg 99 64).toInt) (xf : v9.toInt < (sg 3 2).toInt) (hr14 : ∀ (v4' : Int64) (v6' : Int32) (v7' : Int32) (sg' : Sg), StC MX9_bringInHand s0 sg' → 0 ≤ v6'.toInt → v6'.toInt ≤ 4095 → 0 ≤ v7'.toInt → v7'.toInt ≤ 12 → (v6'.toInt < pw sg') → (pw sg' ≤ (sg' 99 63).toInt) → (pw sg' ≤ (sg' 99 64).toInt) → v7.toInt < v7'.toInt → Ok (PVC MX9_bringInHand s0) (r14 (v4', v6', v7', sg'))) (hr40 : ∀ (v4' : Int64) (v6' : Int32) (v7' : Int32) (v8' : Int32) (v9' : Int32) (v10' : Int32) (sg' : Sg), StC MX9_bringInHand s0 sg' → 0 ≤ v6'.toInt → v6'.toInt ≤ 4095 → 0 ≤ v7'.toInt → v7'.toInt ≤ 11 → 0 ≤ v8'.toInt → v8'.toInt ≤ 4095 → (-1) ≤ v9'.toInt → v9'.toInt ≤ 11 → 0 ≤ v10'.toInt → v10'.toInt ≤ 12 → (v6'.toInt < pw sg') → (pw sg' ≤ (sg' 99 63).toInt) → (pw sg' ≤ (sg' 99 64).toInt) → (v9'.toInt < (sg' 3 2).toInt) → (∀ (v4'' : Int64) (v6'' : Int32) (v7'' : Int32) (sg'' : Sg), StC MX9_bringInHand s0 sg'' → 0 ≤ v6''.toInt → v6''.toInt ≤ 4095 → 0 ≤ v7''.toInt → v7''.toInt ≤ 12 → (v6''.toInt < pw sg'') → (pw sg'' ≤ (sg'' 99 63).toInt) → (pw sg'' ≤ (sg'' 99 64).toInt) → v7'.toInt < v7''.toInt → Ok (PVC MX9_bringInHand s0) (r14 (v4'', v6'', v7'', sg''))) → v10.toInt < v10'.toInt → Ok (PVC MX9_bringInHand s0) (r40 (v4', v6', v7', v8', v9', v10', sg'))) : Ok (PVC MX9_bringInHand s0) (fX9_bringInHand_106 r14 r40 v4 v6 v7 v8 v9 v10 sg) := by
  unfold fX9_bringInHand_106
  refine ok_lt (fun x1 ex1 => ?_)
  replace ex1 : x1.toInt = v10.toInt + 1 := by rw [ex1]; exact add_c 1 (by decide) (by omega) (by omega)
  exact hr40 v4 v6 v7 v8 v9 x1 sg hS (by omega) (by omega) (by omega) (by omega) (by omega) (by omega) (by omega) (by omega) (by omega) (by omega) (by omega) (by omega) (by omega) (by omega) hr14 (by omega)
set_option maxHeartbeats 4000000 in
theorem sX9_bringInHand_40 {s0 : Sg} {r14 : (Int64 × Int32 × Int32 × Sg) → Option (Sg)} {r40 : (Int64 × Int32 × Int32 × Int32 × Int32 × Int32 × Sg) → Option (Sg)} {v4 : Int64} {v6 : Int32} {v7 : Int32} {v8 : Int32} {v9 : Int32} {v10 : Int32} {sg : Sg} (hS : StC MX9_bringInHand s0 sg) (v6l : 0 ≤ v6.toInt) (v6h : v6.toInt ≤ 4095) (v7l : 0 ≤ v7.toInt) (v7h : v7.toInt ≤ 11) (v8l : 0 ≤ v8.toInt) (v8h : v8.toInt ≤ 4095) (v9l : (-1) ≤ v9.toInt) (v9h : v9.toInt ≤ 11) (v10l : 0 ≤ v10.toInt) (v10h : v10.toInt ≤ 12) (xa : v6.toInt < pw sg) (xb : pw sg ≤ (sg 99 63).toInt) (xc : pw sg ≤ (sg 99 64).toInt) (xf : v9.toInt < (sg 3 2).toInt) (hr14 : ∀ (v4' : Int64) (v6' : Int32) (v7' : Int32) (sg' : Sg), StC MX9_bringInHand s0 sg' → 0 ≤ v6'.toInt → v6'.toInt ≤ 4095 → 0 ≤ v7'.toInt → v7'.toInt ≤ 12 → (v6'.toInt < pw sg') → (pw sg' ≤ (sg' 99 63).toInt) → (pw sg' ≤ (sg' 99 64).toInt) → v7.toInt < v7'.toInt → Ok (PVC MX9_bringInHand s0) (r14 (v4', v6', v7', sg'))) (hr40 : ∀ (v4' : Int64) (v6' : Int32) (v7' : Int32) (v8' : Int32) (v9' : Int32) (v10' : Int32) (sg' : Sg), StC MX9_bringInHand s0 sg' → 0 ≤ v6'.toInt → v6'.toInt ≤ 4095 → 0 ≤ v7'.toInt → v7'.toInt ≤ 11 → 0 ≤ v8'.toInt → v8'.toInt ≤ 4095 → (-1) ≤ v9'.toInt → v9'.toInt ≤ 11 → 0 ≤ v10'.toInt → v10'.toInt ≤ 12 → (v6'.toInt < pw sg') → (pw sg' ≤ (sg' 99 63).toInt) → (pw sg' ≤ (sg' 99 64).toInt) → (v9'.toInt < (sg' 3 2).toInt) → (∀ (v4'' : Int64) (v6'' : Int32) (v7'' : Int32) (sg'' : Sg), StC MX9_bringInHand s0 sg'' → 0 ≤ v6''.toInt → v6''.toInt ≤ 4095 → 0 ≤ v7''.toInt → v7''.toInt ≤ 12 → (v6''.toInt < pw sg'') → (pw sg'' ≤ (sg'' 99 63).toInt) → (pw sg'' ≤ (sg'' 99 64).toInt) → v7'.toInt < v7''.toInt → Ok (PVC MX9_bringInHand s0) (r14 (v4'', v6'', v7'', sg''))) → v10.toInt < v10'.toInt → Ok (PVC MX9_bringInHand s0) (r40 (v4', v6', v7', v8', v9', v10', sg'))) : Ok (PVC MX9_bringInHand s0) (fX9_bringInHand_40 r14 r40 v4 v6 v7 v8 v9 v10 sg) := by
  unfold fX9_bringInHand_40
  refine ok_ite (fun c1 => ?_) (fun c1 => ?_)
  · have f2 := rdC3_2 hS.1.1
    replace c1 := i_le.mp c1
    exact sX9_bringInHand_112 hS (by omega) (by omega) (by omega) (by omega) (by omega) (by omega) (by omega) (by omega) (by omega) (by omega) hr14
  · have f3 := rdC3_2 hS.1.1
    replace c1 := i_nle.mp c1
    refine ok_ite (fun c4 => ?_) (fun c4 => ?_)
    · have k5 : (-1 : Int32).toInt = -1 := by decide
      replace c4 := i_eq.mp c4
      refine bnd2_pxC (sX11_isIn (v0 := v8) (v1 := v10) hS.1 (by omega) (by omega) (by omega) (by omega)) (fun y3 qy3 zy3 xy3 => ?_)
      replace xy3 : y3.toInt = 0 ∨ 0 < (v8 >>> (v10 &&& 31)).toInt := xy3
      refine ok_ite (fun c6 => ?_) (fun c6 => ?_)
      · have k7 : (0 : Int32).toInt = 0 := by decide
        replace c6 := i_eq.mp c6
        exact sX9_bringInHand_106 hS (by omega) (by omega) (by omega) (by omega) (by omega) (by omega) (by omega) (by omega) (by omega) (by omega) (by omega) (by omega) (by omega) (by omega) hr14 hr40
      · have k8 : (0 : Int32).toInt = 0 := by decide
        replace c6 := i_ne.mp c6
        have f9 := shl_i (v := v10) 11 2048 (by decide) (by decide) (by omega) (by omega)
        have f10 := or_pw (sg := sg) (a := v6) (v := v10) (by omega) (by omega) (by omega) (by omega) (by omega)
        have f11 := or_i (a := v6) (b := ((1 : Int32) <<< (v10 &&& 31))) 12 4096 (by decide) (by decide) (by omega) (by omega) (by omega) (by omega)
        refine ok_lt (fun x8 ex8 => ?_)
        replace ex8 := congrArg Int32.toInt ex8
        have f12 := rdC99_64 hS.1.1
        refine ok_ginL (by omega) (by omega) ?_
        refine ok_lt (fun x10 ex10 => ?_)
        replace ex10 := congrArg Int32.toInt ex10
        refine ok_ite (fun c13 => ?_) (fun c13 => ?_)
        · have f14 : x10.toInt64.toInt = x10.toInt := Int32.toInt_toInt64 _
          replace c13 := j_le.mp c13
          refine ok_lt (fun x12 ex12 => ?_)
          exact sX9_bringInHand_106 hS (by omega) (by omega) (by omega) (by omega) (by omega) (by omega) (by omega) (by omega) (by omega) (by omega) (by omega) (by omega) (by omega) (by omega) hr14 hr40
        · have f15 : x10.toInt64.toInt = x10.toInt := Int32.toInt_toInt64 _
          replace c13 := j_nle.mp c13
          exact sX9_bringInHand_106 hS (by omega) (by omega) (by omega) (by omega) (by omega) (by omega) (by omega) (by omega) (by omega) (by omega) (by omega) (by omega) (by omega) (by omega) hr14 hr40
    · have k16 : (-1 : Int32).toInt = -1 := by decide
      replace c4 := i_ne.mp c4
      exact sX9_bringInHand_112 hS (by omega) (by omega) (by omega) (by omega) (by omega) (by omega) (by omega) (by omega) (by omega) (by omega) hr14
set_option maxHeartbeats 4000000 in
theorem sLX9_bringInHand_40 {s0 : Sg} {r14 : (Int64 × Int32 × Int32 × Sg) → Option (Sg)} {v4 : Int64} {v6 : Int32} {v7 : Int32} {v8 : Int32} {v9 : Int32} {v10 : Int32} {sg : Sg} (hS : StC MX9_bringInHand s0 sg) (v6l : 0 ≤ v6.toInt) (v6h : v6.toInt ≤ 4095) (v7l : 0 ≤ v7.toInt) (v7h : v7.toInt ≤ 11) (v8l : 0 ≤ v8.toInt) (v8h : v8.toInt ≤ 4095) (v9l : (-1) ≤ v9.toInt) (v9h : v9.toInt ≤ 11) (v10l : 0 ≤ v10.toInt) (v10h : v10.toInt ≤ 12) (xa : (v6.toInt < pw sg)) (xb : (pw sg ≤ (sg 99 63).toInt)) (xc : (pw sg ≤ (sg 99 64).toInt)) (xf : (v9.toInt < (sg 3 2).toInt)) (hr14 : ∀ (v4' : Int64) (v6' : Int32) (v7' : Int32) (sg' : Sg), StC MX9_bringInHand s0 sg' → 0 ≤ v6'.toInt → v6'.toInt ≤ 4095 → 0 ≤ v7'.toInt → v7'.toInt ≤ 12 → (v6'.toInt < pw sg') → (pw sg' ≤ (sg' 99 63).toInt) → (pw sg' ≤ (sg' 99 64).toInt) → v7.toInt < v7'.toInt → Ok (PVC MX9_bringInHand s0) (r14 (v4', v6', v7', sg'))) : Ok (PVC MX9_bringInHand s0) (LX9_bringInHand_40 r14 (v4, v6, v7, v8, v9, v10, sg)) := by
  unfold LX9_bringInHand_40
  refine ok_loop (I := fun (z : Int64 × Int32 × Int32 × Int32 × Int32 × Int32 × Sg) => StC MX9_bringInHand s0 z.2.2.2.2.2.2 ∧ 0 ≤ z.2.1.toInt ∧ z.2.1.toInt ≤ 4095 ∧ 0 ≤ z.2.2.1.toInt ∧ z.2.2.1.toInt ≤ 11 ∧ 0 ≤ z.2.2.2.1.toInt ∧ z.2.2.2.1.toInt ≤ 4095 ∧ (-1) ≤ z.2.2.2.2.1.toInt ∧ z.2.2.2.2.1.toInt ≤ 11 ∧ 0 ≤ z.2.2.2.2.2.1.toInt ∧ z.2.2.2.2.2.1.toInt ≤ 12 ∧ (z.2.1.toInt < pw z.2.2.2.2.2.2) ∧ (pw z.2.2.2.2.2.2 ≤ (z.2.2.2.2.2.2 99 63).toInt) ∧ (pw z.2.2.2.2.2.2 ≤ (z.2.2.2.2.2.2 99 64).toInt) ∧ (z.2.2.2.2.1.toInt < (z.2.2.2.2.2.2 3 2).toInt) ∧ (∀ (v4' : Int64) (v6' : Int32) (v7' : Int32) (sg' : Sg), StC MX9_bringInHand s0 sg' → 0 ≤ v6'.toInt → v6'.toInt ≤ 4095 → 0 ≤ v7'.toInt → v7'.toInt ≤ 12 → (v6'.toInt < pw sg') → (pw sg' ≤ (sg' 99 63).toInt) → (pw sg' ≤ (sg' 99 64).toInt) → z.2.2.1.toInt < v7'.toInt → Ok (PVC MX9_bringInHand s0) (r14 (v4', v6', v7', sg')))) (m := fun (z : Int64 × Int32 × Int32 × Int32 × Int32 × Int32 × Sg) => (13 - z.2.2.2.2.2.1.toInt).toNat) _ ?_ ?_ _ ?_
  · intro z hz
    obtain ⟨h0, h1, h2, h3, h4, h5, h6, h7, h8, h9, h10, h11, h12, h13, h14, h15⟩ := hz
    show (13 - z.2.2.2.2.2.1.toInt).toNat < 10000
    omega
  · intro rec z hz hrec
    obtain ⟨v4, v6, v7, v8, v9, v10, sg⟩ := z
    replace hz : StC MX9_bringInHand s0 sg ∧ 0 ≤ v6.toInt ∧ v6.toInt ≤ 4095 ∧ 0 ≤ v7.toInt ∧ v7.toInt ≤ 11 ∧ 0 ≤ v8.toInt ∧ v8.toInt ≤ 4095 ∧ (-1) ≤ v9.toInt ∧ v9.toInt ≤ 11 ∧ 0 ≤ v10.toInt ∧ v10.toInt ≤ 12 ∧ (v6.toInt < pw sg) ∧ (pw sg ≤ (sg 99 63).toInt) ∧ (pw sg ≤ (sg 99 64).toInt) ∧ (v9.toInt < (sg 3 2).toInt) ∧ (∀ (v4' : Int64) (v6' : Int32) (v7' : Int32) (sg' : Sg), StC MX9_bringInHand s0 sg' → 0 ≤ v6'.toInt → v6'.toInt ≤ 4095 → 0 ≤ v7'.toInt → v7'.toInt ≤ 12 → (v6'.toInt < pw sg') → (pw sg' ≤ (sg' 99 63).toInt) → (pw sg' ≤ (sg' 99 64).toInt) → v7.toInt < v7'.toInt → Ok (PVC MX9_bringInHand s0) (r14 (v4', v6', v7', sg'))) := hz
    obtain ⟨h0, h1, h2, h3, h4, h5, h6, h7, h8, h9, h10, h11, h12, h13, h14, h15⟩ := hz
    show Ok (PVC MX9_bringInHand s0) (fX9_bringInHand_40 r14 rec v4 v6 v7 v8 v9 v10 sg)
    exact sX9_bringInHand_40 h0 h1 h2 h3 h4 h5 h6 h7 h8 h9 h10 h11 h12 h13 h14 h15 (fun v4' v6' v7' v8' v9' v10' sg' g0 g1 g2 g3 g4 g5 g6 g7 g8 g9 g10 g11 g12 g13 g14 g15 g16 => hrec (v4', v6', v7', v8', v9', v10', sg') ⟨g0, g1, g2, g3, g4, g5, g6, g7, g8, g9, g10, g11, g12, g13, g14, g15⟩ (show (13 - v10'.toInt).toNat < (13 - v10.toInt).toNat by omega))
  · exact ⟨hS, v6l, v6h, v7l, v7h, v8l, v8h, v9l, v9h, v10l, v10h, xa, xb, xc, xf, hr14⟩
set_option maxHeartbeats 4000000 in
theorem sX9_bringInHand_14 {s0 : Sg} {r14 : (Int64 × Int32 × Int32 × Sg) → Option (Sg)} {v4 : Int64} {v6 : Int32} {v7 : Int32} {sg : Sg} (hS : StC MX9_bringInHand s0 sg) (v6l : 0 ≤ v6.toInt) (v6h : v6.toInt ≤ 4095) (v7l : 0 ≤ v7.toInt) (v7h : v7.toInt ≤ 12) (xa : v6.toInt < pw sg) (xb : pw sg ≤ (sg 99 63).toInt) (xc : pw sg ≤ (sg 99 64).toInt) (hr14 : ∀ (v4' : Int64) (v6' : Int32) (v7' : Int32) (sg' : Sg), StC MX9_bringInHand s0 sg' → 0 ≤ v6'.toInt → v6'.toInt ≤ 4095 → 0 ≤ v7'.toInt → v7'.toInt ≤ 12 → (v6'.toInt < pw sg') → (pw sg' ≤ (sg' 99 63).toInt) → (pw sg' ≤ (sg' 99 64).toInt) → v7.toInt < v7'.toInt → Ok (PVC MX9_bringInHand s0) (r14 (v4', v6', v7', sg'))) : Ok (PVC MX9_bringInHand s0) (fX9_bringInHand_14 r14 v4 v6 v7 sg) := by
  unfold fX9_bringInHand_14
  refine ok_ite (fun c1 => ?_) (fun c1 => ?_)
  · have f2 := rdC3_2 hS.1.1
    replace c1 := i_le.mp c1
    exact ok_some (mkPVC hS)
  · have f3 := rdC3_2 hS.1.1
    replace c1 := i_nle.mp c1
    refine bnd2_pxC (sX9_bestChoices (v1 := v6) hS.1 (by omega) (by omega) (by omega) (by omega)) (fun y2 qy2 zy2 xy2 => ?_)
    replace xy2 : 0 ≤ y2.toInt ∧ y2.toInt < pw sg := xy2
    have k4 : (-1 : Int32).toInt = -1 := by decide
    have k5 : (0 : Int32).toInt = 0 := by decide
    exact sLX9_bringInHand_40 hS (by omega) (by omega) (by omega) (by omega) (by omega) (by omega) (by omega) (by omega) (by omega) (by omega) (by omega) (by omega) (by omega) (by omega) hr14
set_option maxHeartbeats 4000000 in
theorem sLX9_bringInHand_14 {s0 : Sg} {v4 : Int64} {v6 : Int32} {v7 : Int32} {sg : Sg} (hS : StC MX9_bringInHand s0 sg) (v6l : 0 ≤ v6.toInt) (v6h : v6.toInt ≤ 4095) (v7l : 0 ≤ v7.toInt) (v7h : v7.toInt ≤ 12) (xa : (v6.toInt < pw sg)) (xb : (pw sg ≤ (sg 99 63).toInt)) (xc : (pw sg ≤ (sg 99 64).toInt)) : Ok (PVC MX9_bringInHand s0) (LX9_bringInHand_14 (v4, v6, v7, sg)) := by
  unfold LX9_bringInHand_14
  refine ok_loop (I := fun (z : Int64 × Int32 × Int32 × Sg) => StC MX9_bringInHand s0 z.2.2.2 ∧ 0 ≤ z.2.1.toInt ∧ z.2.1.toInt ≤ 4095 ∧ 0 ≤ z.2.2.1.toInt ∧ z.2.2.1.toInt ≤ 12 ∧ (z.2.1.toInt < pw z.2.2.2) ∧ (pw z.2.2.2 ≤ (z.2.2.2 99 63).toInt) ∧ (pw z.2.2.2 ≤ (z.2.2.2 99 64).toInt)) (m := fun (z : Int64 × Int32 × Int32 × Sg) => (13 - z.2.2.1.toInt).toNat) _ ?_ ?_ _ ?_
  · intro z hz
    obtain ⟨h0, h1, h2, h3, h4, h5, h6, h7⟩ := hz
    show (13 - z.2.2.1.toInt).toNat < 10000
    omega
  · intro rec z hz hrec
    obtain ⟨v4, v6, v7, sg⟩ := z
    replace hz : StC MX9_bringInHand s0 sg ∧ 0 ≤ v6.toInt ∧ v6.toInt ≤ 4095 ∧ 0 ≤ v7.toInt ∧ v7.toInt ≤ 12 ∧ (v6.toInt < pw sg) ∧ (pw sg ≤ (sg 99 63).toInt) ∧ (pw sg ≤ (sg 99 64).toInt) := hz
    obtain ⟨h0, h1, h2, h3, h4, h5, h6, h7⟩ := hz
    show Ok (PVC MX9_bringInHand s0) (fX9_bringInHand_14 rec v4 v6 v7 sg)
    exact sX9_bringInHand_14 h0 h1 h2 h3 h4 h5 h6 h7 (fun v4' v6' v7' sg' g0 g1 g2 g3 g4 g5 g6 g7 g8 => hrec (v4', v6', v7', sg') ⟨g0, g1, g2, g3, g4, g5, g6, g7⟩ (show (13 - v7'.toInt).toNat < (13 - v7.toInt).toNat by omega))
  · exact ⟨hS, v6l, v6h, v7l, v7h, xa, xb, xc⟩
set_option maxHeartbeats 4000000 in
theorem sX9_bringInHand {v1 : Int64} {sg : Sg} (hI : IC sg) (xb : pw sg ≤ (sg 99 63).toInt) (xc : pw sg ≤ (sg 99 64).toInt) : Ok (PVC MX9_bringInHand sg) (fX9_bringInHand v1 sg) := by
  have hS : StC MX9_bringInHand sg sg := StC.rf hI
  unfold fX9_bringInHand
  have k1 : (0 : Int32).toInt = 0 := by decide
  refine ok_lt (fun sg1 esg1 => ?_)
  have hS2 := upC5_0 hS (by decide) esg1 (by omega) (by omega)
  have e3 : pw sg1 = pw sg := pw_cg (by rw [esg1]; rfl)
  have e4 : (sg1 99 63).toInt = (sg 99 63).toInt := by rw [esg1]; rfl
  have e5 : (sg1 99 64).toInt = (sg 99 64).toInt := by rw [esg1]; rfl
  have e6 : (sg1 5 0).toInt = (0 : Int32).toInt := by rw [esg1]; rfl
  have hp := pw_pos sg1
  exact sLX9_bringInHand_14 hS2 (by omega) (by omega) (by omega) (by omega) (by omega) (by omega) (by omega)
set_option maxHeartbeats 4000000 in
theorem sX11_best {v1 : Int64} {sg : Sg} (hI : IC sg) : Ok (PLC MX11_best sg) (fX11_best v1 sg) := by
  have hS : StC MX11_best sg sg := StC.rf hI
  unfold fX11_best
  refine ok_ite (fun c1 => ?_) (fun c1 => ?_)
  · have k2 : (0 : Int64).toInt = 0 := by decide
    replace c1 := j_le.mp c1
    refine bnd1_pvxC (sX9_solve  hS.1) (fun sg2 hsg2 xsg2 => ?_)
    replace xsg2 : pw sg2 ≤ (sg2 99 63).toInt ∧ pw sg2 ≤ (sg2 99 64).toInt ∧ (sg2 3 1).toInt = (sg2 1 1).toInt := xsg2
    have hS3 := hS.tr hsg2 (by decide)
    refine bnd2_pulC (sX9_howMany  hS3.1) (fun y5 => ?_)
    refine ok_ite (fun c4 => ?_) (fun c4 => ?_)
    · replace c4 := j_lt.mp c4
      refine bnd1_pvC (sX9_bringInHand (v1 := v1) hS3.1 (by omega) (by omega)) (fun sg9 hsg9 => ?_)
      have e5 : pw sg9 = pw sg2 := pw_cg (congrFun (hsg9.fr 3 (by decide)) _)
      have e6 : (sg9 1 1).toInt = (sg2 1 1).toInt := congrArg Int32.toInt (congrFun (hsg9.fr 1 (by decide)) _)
      have e7 : (sg9 3 1).toInt = (sg2 3 1).toInt := congrArg Int32.toInt (congrFun (hsg9.fr 3 (by decide)) _)
      have e8 : (sg9 99 63).toInt = (sg2 99 63).toInt := congrArg Int32.toInt (congrFun (hsg9.fr 99 (by decide)) _)
      have e9 : (sg9 99 64).toInt = (sg2 99 64).toInt := congrArg Int32.toInt (congrFun (hsg9.fr 99 (by decide)) _)
      have hS10 := hS3.tr hsg9 (by decide)
      exact ok_some (mkPLC hS10)
    · replace c4 := j_nlt.mp c4
      exact ok_some (mkPLC hS3)
  · have k11 : (0 : Int64).toInt = 0 := by decide
    replace c1 := j_nle.mp c1
    exact ok_some (mkPLC hS)
set_option maxHeartbeats 4000000 in
theorem sX7_readFrom_25 {s0 : Sg} {r25 : (Int32 × Sg) → Option (Int32 × Sg)} {v2 : Int32} {sg : Sg} (hS : StC MX7_readFrom s0 sg) (v2l : 0 ≤ v2.toInt) (v2h : v2.toInt ≤ 12) (hr25 : ∀ (v2' : Int32) (sg' : Sg), StC MX7_readFrom s0 sg' → 0 ≤ v2'.toInt → v2'.toInt ≤ 12 → v2.toInt < v2'.toInt → Ok (PIC MX7_readFrom s0 0 1) (r25 (v2', sg'))) : Ok (PIC MX7_readFrom s0 0 1) (fX7_readFrom_25 r25 v2 sg) := by
  unfold fX7_readFrom_25
  refine ok_ite (fun c1 => ?_) (fun c1 => ?_)
  · have f2 := rdC5_0 hS.1.1
    replace c1 := i_le.mp c1
    have k3 : (1 : Int32).toInt = 1 := by decide
    exact ok_some (mkPIC hS (by omega) (by omega))
  · have f4 := rdC5_0 hS.1.1
    replace c1 := i_nle.mp c1
    refine ok_gin (by omega) (by omega) ?_
    have f5 := rdC31 hS.1.1 (j := v2.toNatClampNeg)
    refine ok_lt (fun x3 ex3 => ?_)
    replace ex3 := congrArg Int32.toInt ex3
    refine ok_gin (by omega) (by omega) ?_
    have f6 := rdC18 hS.1.1 (j := x3.toNatClampNeg)
    refine ok_lt (fun x5 ex5 => ?_)
    replace ex5 := congrArg Int32.toInt ex5
    refine ok_ite (fun c7 => ?_) (fun c7 => ?_)
    · have k8 : (-1 : Int32).toInt = -1 := by decide
      replace c7 := i_eq.mp c7
      have k9 : (0 : Int32).toInt = 0 := by decide
      exact ok_some (mkPIC hS (by omega) (by omega))
    · have k10 : (-1 : Int32).toInt = -1 := by decide
      replace c7 := i_ne.mp c7
      refine ok_gin (by omega) (by omega) ?_
      refine ok_lt (fun sg8 esg8 => ?_)
      have hS11 := upC32 hS (by decide) esg8 (by omega) (by omega)
      have e12 : (sg8 5 0).toInt = (sg 5 0).toInt := by rw [esg8]; rfl
      refine ok_gin (by omega) (by omega) ?_
      refine ok_lt (fun sg10 esg10 => ?_)
      have hS13 := upC33 hS11 (by decide) esg10 (by omega) (by omega)
      have e14 : (sg10 5 0).toInt = (sg8 5 0).toInt := by rw [esg10]; rfl
      refine ok_lt (fun x11 ex11 => ?_)
      replace ex11 : x11.toInt = v2.toInt + 1 := by rw [ex11]; exact add_c 1 (by decide) (by omega) (by omega)
      exact hr25 x11 sg10 hS13 (by omega) (by omega) (by omega)
set_option maxHeartbeats 4000000 in
theorem sLX7_readFrom_25 {s0 : Sg} {v2 : Int32} {sg : Sg} (hS : StC MX7_readFrom s0 sg) (v2l : 0 ≤ v2.toInt) (v2h : v2.toInt ≤ 12) : Ok (PIC MX7_readFrom s0 0 1) (LX7_readFrom_25 (v2, sg)) := by
  unfold LX7_readFrom_25
  refine ok_loop (I := fun (z : Int32 × Sg) => StC MX7_readFrom s0 z.2 ∧ 0 ≤ z.1.toInt ∧ z.1.toInt ≤ 12) (m := fun (z : Int32 × Sg) => (13 - z.1.toInt).toNat) _ ?_ ?_ _ ?_
  · intro z hz
    obtain ⟨h0, h1, h2⟩ := hz
    show (13 - z.1.toInt).toNat < 10000
    omega
  · intro rec z hz hrec
    obtain ⟨v2, sg⟩ := z
    replace hz : StC MX7_readFrom s0 sg ∧ 0 ≤ v2.toInt ∧ v2.toInt ≤ 12 := hz
    obtain ⟨h0, h1, h2⟩ := hz
    show Ok (PIC MX7_readFrom s0 0 1) (fX7_readFrom_25 rec v2 sg)
    exact sX7_readFrom_25 h0 h1 h2 (fun v2' sg' g0 g1 g2 g3 => hrec (v2', sg') ⟨g0, g1, g2⟩ (show (13 - v2'.toInt).toNat < (13 - v2.toInt).toNat by omega))
  · exact ⟨hS, v2l, v2h⟩
set_option maxHeartbeats 4000000 in
theorem sX7_readFrom {sg : Sg} (hI : IC sg) : Ok (PIC MX7_readFrom sg 0 1) (fX7_readFrom sg) := by
  have hS : StC MX7_readFrom sg sg := StC.rf hI
  unfold fX7_readFrom
  refine bnd1_pvxC (sX8_gather  hS.1) (fun sg1 hsg1 xsg1 => ?_)
  replace xsg1 : (sg1 3 1).toInt = (sg1 1 1).toInt := xsg1
  have hS1 := hS.tr hsg1 (by decide)
  refine ok_ite (fun c2 => ?_) (fun c2 => ?_)
  · have f3 := rdC5_0 hS1.1.1
    have f4 := rdC3_2 hS1.1.1
    replace c2 := i_eq.mp c2
    have k5 : (0 : Int32).toInt = 0 := by decide
    exact sLX7_readFrom_25 hS1 (by omega) (by omega)
  · have f6 := rdC5_0 hS1.1.1
    have f7 := rdC3_2 hS1.1.1
    replace c2 := i_ne.mp c2
    have k8 : (0 : Int32).toInt = 0 := by decide
    exact ok_some (mkPIC hS1 (by omega) (by omega))
set_option maxHeartbeats 4000000 in
theorem sX9_numberOf_c32_95 {r19 : (Int64 × Int32 × Int32 × Sg) → Option (Int64 × Sg)} {r62 : (Int64 × Int32 × Int32 × Int32 × Int32 × Int32 × Sg) → Option (Int64 × Sg)} {v2 : Int64} {v4 : Int32} {v5 : Int32} {v6 : Int32} {v7 : Int32} {v8 : Int32} {sg : Sg} (hI : IC sg) (v4l : 0 ≤ v4.toInt) (v4h : v4.toInt ≤ 4095) (v5l : 0 ≤ v5.toInt) (v5h : v5.toInt ≤ 11) (v6l : 1 ≤ v6.toInt) (v6h : v6.toInt ≤ 11) (v7l : 0 ≤ v7.toInt) (v7h : v7.toInt ≤ 4095) (v8l : 0 ≤ v8.toInt) (v8h : v8.toInt ≤ 10) (xa : v4.toInt < pw sg) (xb : pw sg ≤ (sg 99 63).toInt) (xc : pw sg ≤ (sg 99 64).toInt) (xf : v6.toInt < (sg 3 2).toInt) (hr19 : ∀ (v2' : Int64) (v4' : Int32) (v5' : Int32), 0 ≤ v4'.toInt → v4'.toInt ≤ 4095 → 0 ≤ v5'.toInt → v5'.toInt ≤ 12 → (v4'.toInt < pw sg) → (pw sg ≤ (sg 99 63).toInt) → (pw sg ≤ (sg 99 64).toInt) → v5.toInt < v5'.toInt → Ok (PUlC sg) (r19 (v2', v4', v5', sg))) (hr62 : ∀ (v2' : Int64) (v4' : Int32) (v5' : Int32) (v6' : Int32) (v7' : Int32) (v8' : Int32), 0 ≤ v4'.toInt → v4'.toInt ≤ 4095 → 0 ≤ v5'.toInt → v5'.toInt ≤ 11 → 0 ≤ v6'.toInt → v6'.toInt ≤ 11 → 0 ≤ v7'.toInt → v7'.toInt ≤ 4095 → 0 ≤ v8'.toInt → v8'.toInt ≤ 11 → (v4'.toInt < pw sg) → (pw sg ≤ (sg 99 63).toInt) → (pw sg ≤ (sg 99 64).toInt) → (v6'.toInt < (sg 3 2).toInt) → (∀ (v2'' : Int64) (v4'' : Int32) (v5'' : Int32), 0 ≤ v4''.toInt → v4''.toInt ≤ 4095 → 0 ≤ v5''.toInt → v5''.toInt ≤ 12 → (v4''.toInt < pw sg) → (pw sg ≤ (sg 99 63).toInt) → (pw sg ≤ (sg 99 64).toInt) → v5'.toInt < v5''.toInt → Ok (PUlC sg) (r19 (v2'', v4'', v5'', sg))) → v8.toInt < v8'.toInt → Ok (PUlC sg) (r62 (v2', v4', v5', v6', v7', v8', sg))) : Ok (PUlC sg) (fX9_numberOf_c32_95 r19 r62 v2 v4 v5 v6 v7 v8 sg) := by
  unfold fX9_numberOf_c32_95
  refine ok_lt (fun x1 ex1 => ?_)
  replace ex1 : x1.toInt = v8.toInt + 1 := by rw [ex1]; exact add_c 1 (by decide) (by omega) (by omega)
  exact hr62 v2 v4 v5 v6 v7 x1 (by omega) (by omega) (by omega) (by omega) (by omega) (by omega) (by omega) (by omega) (by omega) (by omega) (by omega) (by omega) (by omega) (by omega) hr19 (by omega)
set_option maxHeartbeats 4000000 in
theorem sX9_numberOf_c32_62 {r19 : (Int64 × Int32 × Int32 × Sg) → Option (Int64 × Sg)} {r62 : (Int64 × Int32 × Int32 × Int32 × Int32 × Int32 × Sg) → Option (Int64 × Sg)} {v2 : Int64} {v4 : Int32} {v5 : Int32} {v6 : Int32} {v7 : Int32} {v8 : Int32} {sg : Sg} (hI : IC sg) (v4l : 0 ≤ v4.toInt) (v4h : v4.toInt ≤ 4095) (v5l : 0 ≤ v5.toInt) (v5h : v5.toInt ≤ 11) (v6l : 0 ≤ v6.toInt) (v6h : v6.toInt ≤ 11) (v7l : 0 ≤ v7.toInt) (v7h : v7.toInt ≤ 4095) (v8l : 0 ≤ v8.toInt) (v8h : v8.toInt ≤ 11) (xa : v4.toInt < pw sg) (xb : pw sg ≤ (sg 99 63).toInt) (xc : pw sg ≤ (sg 99 64).toInt) (xf : v6.toInt < (sg 3 2).toInt) (hr19 : ∀ (v2' : Int64) (v4' : Int32) (v5' : Int32), 0 ≤ v4'.toInt → v4'.toInt ≤ 4095 → 0 ≤ v5'.toInt → v5'.toInt ≤ 12 → (v4'.toInt < pw sg) → (pw sg ≤ (sg 99 63).toInt) → (pw sg ≤ (sg 99 64).toInt) → v5.toInt < v5'.toInt → Ok (PUlC sg) (r19 (v2', v4', v5', sg))) (hr62 : ∀ (v2' : Int64) (v4' : Int32) (v5' : Int32) (v6' : Int32) (v7' : Int32) (v8' : Int32), 0 ≤ v4'.toInt → v4'.toInt ≤ 4095 → 0 ≤ v5'.toInt → v5'.toInt ≤ 11 → 0 ≤ v6'.toInt → v6'.toInt ≤ 11 → 0 ≤ v7'.toInt → v7'.toInt ≤ 4095 → 0 ≤ v8'.toInt → v8'.toInt ≤ 11 → (v4'.toInt < pw sg) → (pw sg ≤ (sg 99 63).toInt) → (pw sg ≤ (sg 99 64).toInt) → (v6'.toInt < (sg 3 2).toInt) → (∀ (v2'' : Int64) (v4'' : Int32) (v5'' : Int32), 0 ≤ v4''.toInt → v4''.toInt ≤ 4095 → 0 ≤ v5''.toInt → v5''.toInt ≤ 12 → (v4''.toInt < pw sg) → (pw sg ≤ (sg 99 63).toInt) → (pw sg ≤ (sg 99 64).toInt) → v5'.toInt < v5''.toInt → Ok (PUlC sg) (r19 (v2'', v4'', v5'', sg))) → v8.toInt < v8'.toInt → Ok (PUlC sg) (r62 (v2', v4', v5', v6', v7', v8', sg))) : Ok (PUlC sg) (fX9_numberOf_c32_62 r19 r62 v2 v4 v5 v6 v7 v8 sg) := by
  unfold fX9_numberOf_c32_62
  refine ok_ite (fun c1 => ?_) (fun c1 => ?_)
  · replace c1 := i_le.mp c1
    have f2 := shl_i (v := v6) 11 2048 (by decide) (by decide) (by omega) (by omega)
    have f3 := rdC3_2 hI.1
    have f4 := or_pw (sg := sg) (a := v4) (v := v6) (by omega) (by omega) (by omega) (by omega) (by omega)
    have f5 := or_i (a := v4) (b := ((1 : Int32) <<< (v6 &&& 31))) 12 4096 (by decide) (by decide) (by omega) (by omega) (by omega) (by omega)
    refine ok_lt (fun x2 ex2 => ?_)
    replace ex2 := congrArg Int32.toInt ex2
    refine ok_lt (fun x3 ex3 => ?_)
    replace ex3 : x3.toInt = v5.toInt + 1 := by rw [ex3]; exact add_c 1 (by decide) (by omega) (by omega)
    exact hr19 v2 x2 x3 (by omega) (by omega) (by omega) (by omega) (by omega) (by omega) (by omega) (by omega)
  · replace c1 := i_nle.mp c1
    refine bnd2_pxC (sX11_isIn (v0 := v7) (v1 := v8) hI (by omega) (by omega) (by omega) (by omega)) (fun y4 qy4 zy4 xy4 => ?_)
    replace xy4 : y4.toInt = 0 ∨ 0 < (v7 >>> (v8 &&& 31)).toInt := xy4
    refine ok_ite (fun c6 => ?_) (fun c6 => ?_)
    · have k7 : (0 : Int32).toInt = 0 := by decide
      replace c6 := i_eq.mp c6
      exact sX9_numberOf_c32_95 hI (by omega) (by omega) (by omega) (by omega) (by omega) (by omega) (by omega) (by omega) (by omega) (by omega) (by omega) (by omega) (by omega) (by omega) hr19 hr62
    · have k8 : (0 : Int32).toInt = 0 := by decide
      replace c6 := i_ne.mp c6
      have f9 := shl_i (v := v8) 10 1024 (by decide) (by decide) (by omega) (by omega)
      have f10 := rdC3_2 hI.1
      have f11 := or_pw (sg := sg) (a := v4) (v := v8) (by omega) (by omega) (by omega) (by omega) (by omega)
      have f12 := or_i (a := v4) (b := ((1 : Int32) <<< (v8 &&& 31))) 12 4096 (by decide) (by decide) (by omega) (by omega) (by omega) (by omega)
      refine ok_lt (fun x9 ex9 => ?_)
      replace ex9 := congrArg Int32.toInt ex9
      have f13 := rdC99_64 hI.1
      refine ok_ginL (by omega) (by omega) ?_
      refine ok_lt (fun x11 ex11 => ?_)
      exact sX9_numberOf_c32_95 hI (by omega) (by omega) (by omega) (by omega) (by omega) (by omega) (by omega) (by omega) (by omega) (by omega) (by omega) (by omega) (by omega) (by omega) hr19 hr62
set_option maxHeartbeats 4000000 in
theorem sLX9_numberOf_c32_62 {r19 : (Int64 × Int32 × Int32 × Sg) → Option (Int64 × Sg)} {v2 : Int64} {v4 : Int32} {v5 : Int32} {v6 : Int32} {v7 : Int32} {v8 : Int32} {sg : Sg} (hI : IC sg) (v4l : 0 ≤ v4.toInt) (v4h : v4.toInt ≤ 4095) (v5l : 0 ≤ v5.toInt) (v5h : v5.toInt ≤ 11) (v6l : 0 ≤ v6.toInt) (v6h : v6.toInt ≤ 11) (v7l : 0 ≤ v7.toInt) (v7h : v7.toInt ≤ 4095) (v8l : 0 ≤ v8.toInt) (v8h : v8.toInt ≤ 11) (xa : (v4.toInt < pw sg)) (xb : (pw sg ≤ (sg 99 63).toInt)) (xc : (pw sg ≤ (sg 99 64).toInt)) (xf : (v6.toInt < (sg 3 2).toInt)) (hr19 : ∀ (v2' : Int64) (v4' : Int32) (v5' : Int32), 0 ≤ v4'.toInt → v4'.toInt ≤ 4095 → 0 ≤ v5'.toInt → v5'.toInt ≤ 12 → (v4'.toInt < pw sg) → (pw sg ≤ (sg 99 63).toInt) → (pw sg ≤ (sg 99 64).toInt) → v5.toInt < v5'.toInt → Ok (PUlC sg) (r19 (v2', v4', v5', sg))) : Ok (PUlC sg) (LX9_numberOf_c32_62 r19 (v2, v4, v5, v6, v7, v8, sg)) := by
  unfold LX9_numberOf_c32_62
  refine ok_loop (I := fun (z : Int64 × Int32 × Int32 × Int32 × Int32 × Int32 × Sg) => z.2.2.2.2.2.2 = sg ∧ 0 ≤ z.2.1.toInt ∧ z.2.1.toInt ≤ 4095 ∧ 0 ≤ z.2.2.1.toInt ∧ z.2.2.1.toInt ≤ 11 ∧ 0 ≤ z.2.2.2.1.toInt ∧ z.2.2.2.1.toInt ≤ 11 ∧ 0 ≤ z.2.2.2.2.1.toInt ∧ z.2.2.2.2.1.toInt ≤ 4095 ∧ 0 ≤ z.2.2.2.2.2.1.toInt ∧ z.2.2.2.2.2.1.toInt ≤ 11 ∧ (z.2.1.toInt < pw z.2.2.2.2.2.2) ∧ (pw z.2.2.2.2.2.2 ≤ (z.2.2.2.2.2.2 99 63).toInt) ∧ (pw z.2.2.2.2.2.2 ≤ (z.2.2.2.2.2.2 99 64).toInt) ∧ (z.2.2.2.1.toInt < (z.2.2.2.2.2.2 3 2).toInt) ∧ (∀ (v2' : Int64) (v4' : Int32) (v5' : Int32), 0 ≤ v4'.toInt → v4'.toInt ≤ 4095 → 0 ≤ v5'.toInt → v5'.toInt ≤ 12 → (v4'.toInt < pw sg) → (pw sg ≤ (sg 99 63).toInt) → (pw sg ≤ (sg 99 64).toInt) → z.2.2.1.toInt < v5'.toInt → Ok (PUlC sg) (r19 (v2', v4', v5', sg)))) (m := fun (z : Int64 × Int32 × Int32 × Int32 × Int32 × Int32 × Sg) => (12 - z.2.2.2.2.2.1.toInt).toNat) _ ?_ ?_ _ ?_
  · intro z hz
    obtain ⟨h0, h1, h2, h3, h4, h5, h6, h7, h8, h9, h10, h11, h12, h13, h14, h15⟩ := hz
    show (12 - z.2.2.2.2.2.1.toInt).toNat < 10000
    omega
  · intro rec z hz hrec
    obtain ⟨v2, v4, v5, v6, v7, v8, sg1⟩ := z
    replace hz : sg1 = sg ∧ 0 ≤ v4.toInt ∧ v4.toInt ≤ 4095 ∧ 0 ≤ v5.toInt ∧ v5.toInt ≤ 11 ∧ 0 ≤ v6.toInt ∧ v6.toInt ≤ 11 ∧ 0 ≤ v7.toInt ∧ v7.toInt ≤ 4095 ∧ 0 ≤ v8.toInt ∧ v8.toInt ≤ 11 ∧ (v4.toInt < pw sg1) ∧ (pw sg1 ≤ (sg1 99 63).toInt) ∧ (pw sg1 ≤ (sg1 99 64).toInt) ∧ (v6.toInt < (sg1 3 2).toInt) ∧ (∀ (v2' : Int64) (v4' : Int32) (v5' : Int32), 0 ≤ v4'.toInt → v4'.toInt ≤ 4095 → 0 ≤ v5'.toInt → v5'.toInt ≤ 12 → (v4'.toInt < pw sg) → (pw sg ≤ (sg 99 63).toInt) → (pw sg ≤ (sg 99 64).toInt) → v5.toInt < v5'.toInt → Ok (PUlC sg) (r19 (v2', v4', v5', sg))) := hz
    obtain ⟨h0, h1, h2, h3, h4, h5, h6, h7, h8, h9, h10, h11, h12, h13, h14, h15⟩ := hz
    subst sg1
    show Ok (PUlC sg) (fX9_numberOf_c32_62 r19 rec v2 v4 v5 v6 v7 v8 sg)
    exact sX9_numberOf_c32_62 hI h1 h2 h3 h4 h5 h6 h7 h8 h9 h10 h11 h12 h13 h14 h15 (fun v2' v4' v5' v6' v7' v8' g0 g1 g2 g3 g4 g5 g6 g7 g8 g9 g10 g11 g12 g13 g14 g15 => hrec (v2', v4', v5', v6', v7', v8', sg) ⟨rfl, g0, g1, g2, g3, g4, g5, g6, g7, g8, g9, g10, g11, g12, g13, g14⟩ (show (12 - v8'.toInt).toNat < (12 - v8.toInt).toNat by omega))
  · exact ⟨rfl, v4l, v4h, v5l, v5h, v6l, v6h, v7l, v7h, v8l, v8h, xa, xb, xc, xf, hr19⟩
set_option maxHeartbeats 4000000 in
theorem sX9_numberOf_c32_19 {r19 : (Int64 × Int32 × Int32 × Sg) → Option (Int64 × Sg)} {v2 : Int64} {v4 : Int32} {v5 : Int32} {sg : Sg} (hI : IC sg) (v4l : 0 ≤ v4.toInt) (v4h : v4.toInt ≤ 4095) (v5l : 0 ≤ v5.toInt) (v5h : v5.toInt ≤ 12) (xa : v4.toInt < pw sg) (xb : pw sg ≤ (sg 99 63).toInt) (xc : pw sg ≤ (sg 99 64).toInt) (hr19 : ∀ (v2' : Int64) (v4' : Int32) (v5' : Int32), 0 ≤ v4'.toInt → v4'.toInt ≤ 4095 → 0 ≤ v5'.toInt → v5'.toInt ≤ 12 → (v4'.toInt < pw sg) → (pw sg ≤ (sg 99 63).toInt) → (pw sg ≤ (sg 99 64).toInt) → v5.toInt < v5'.toInt → Ok (PUlC sg) (r19 (v2', v4', v5', sg))) : Ok (PUlC sg) (fX9_numberOf_c32_19 r19 v2 v4 v5 sg) := by
  unfold fX9_numberOf_c32_19
  refine ok_ite (fun c1 => ?_) (fun c1 => ?_)
  · have f2 := rdC3_2 hI.1
    replace c1 := i_le.mp c1
    exact ok_some (mkPUlC)
  · have f3 := rdC3_2 hI.1
    replace c1 := i_nle.mp c1
    refine ok_gin (by omega) (by omega) ?_
    have f4 := rdC32 hI.1 (j := v5.toNatClampNeg)
    refine ok_lt (fun x3 ex3 => ?_)
    replace ex3 := congrArg Int32.toInt ex3
    refine bnd2_pxC (sX9_bestChoices (v1 := v4) hI (by omega) (by omega) (by omega) (by omega)) (fun y4 qy4 zy4 xy4 => ?_)
    replace xy4 : 0 ≤ y4.toInt ∧ y4.toInt < pw sg := xy4
    refine bnd2_pxC (sX11_isIn (v0 := y4) (v1 := x3) hI (by omega) (by omega) (by omega) (by omega)) (fun y7 qy7 zy7 xy7 => ?_)
    replace xy7 : y7.toInt = 0 ∨ 0 < (y4 >>> (x3 &&& 31)).toInt := xy7
    refine ok_ite (fun c5 => ?_) (fun c5 => ?_)
    · have k6 : (0 : Int32).toInt = 0 := by decide
      replace c5 := i_eq.mp c5
      exact ok_some (mkPUlC)
    · have k7 : (0 : Int32).toInt = 0 := by decide
      replace c5 := i_ne.mp c5
      have hz := shr_lt (sg := sg) (a := y4) (v := x3) (by omega) (by omega) (by omega) (by omega) (by omega) (by omega)
      exact sLX9_numberOf_c32_62 hI (by omega) (by omega) (by omega) (by omega) (by omega) (by omega) (by omega) (by omega) (by omega) (by omega) (by omega) (by omega) (by omega) (by omega) hr19
set_option maxHeartbeats 4000000 in
theorem sLX9_numberOf_c32_19 {v2 : Int64} {v4 : Int32} {v5 : Int32} {sg : Sg} (hI : IC sg) (v4l : 0 ≤ v4.toInt) (v4h : v4.toInt ≤ 4095) (v5l : 0 ≤ v5.toInt) (v5h : v5.toInt ≤ 12) (xa : (v4.toInt < pw sg)) (xb : (pw sg ≤ (sg 99 63).toInt)) (xc : (pw sg ≤ (sg 99 64).toInt)) : Ok (PUlC sg) (LX9_numberOf_c32_19 (v2, v4, v5, sg)) := by
  unfold LX9_numberOf_c32_19
  refine ok_loop (I := fun (z : Int64 × Int32 × Int32 × Sg) => z.2.2.2 = sg ∧ 0 ≤ z.2.1.toInt ∧ z.2.1.toInt ≤ 4095 ∧ 0 ≤ z.2.2.1.toInt ∧ z.2.2.1.toInt ≤ 12 ∧ (z.2.1.toInt < pw z.2.2.2) ∧ (pw z.2.2.2 ≤ (z.2.2.2 99 63).toInt) ∧ (pw z.2.2.2 ≤ (z.2.2.2 99 64).toInt)) (m := fun (z : Int64 × Int32 × Int32 × Sg) => (13 - z.2.2.1.toInt).toNat) _ ?_ ?_ _ ?_
  · intro z hz
    obtain ⟨h0, h1, h2, h3, h4, h5, h6, h7⟩ := hz
    show (13 - z.2.2.1.toInt).toNat < 10000
    omega
  · intro rec z hz hrec
    obtain ⟨v2, v4, v5, sg1⟩ := z
    replace hz : sg1 = sg ∧ 0 ≤ v4.toInt ∧ v4.toInt ≤ 4095 ∧ 0 ≤ v5.toInt ∧ v5.toInt ≤ 12 ∧ (v4.toInt < pw sg1) ∧ (pw sg1 ≤ (sg1 99 63).toInt) ∧ (pw sg1 ≤ (sg1 99 64).toInt) := hz
    obtain ⟨h0, h1, h2, h3, h4, h5, h6, h7⟩ := hz
    subst sg1
    show Ok (PUlC sg) (fX9_numberOf_c32_19 rec v2 v4 v5 sg)
    exact sX9_numberOf_c32_19 hI h1 h2 h3 h4 h5 h6 h7 (fun v2' v4' v5' g0 g1 g2 g3 g4 g5 g6 g7 => hrec (v2', v4', v5', sg) ⟨rfl, g0, g1, g2, g3, g4, g5, g6⟩ (show (13 - v5'.toInt).toNat < (13 - v5.toInt).toNat by omega))
  · exact ⟨rfl, v4l, v4h, v5l, v5h, xa, xb, xc⟩
set_option maxHeartbeats 4000000 in
theorem sX9_numberOf_c32 {sg : Sg} (hI : IC sg) (xb : pw sg ≤ (sg 99 63).toInt) (xc : pw sg ≤ (sg 99 64).toInt) : Ok (PUlC sg) (fX9_numberOf_c32 sg) := by
  unfold fX9_numberOf_c32
  refine bnd2_puC (sX9_hasLawful  hI) (fun y1 qy1 zy1 => ?_)
  refine ok_ite (fun c1 => ?_) (fun c1 => ?_)
  · have k2 : (0 : Int32).toInt = 0 := by decide
    replace c1 := i_eq.mp c1
    exact ok_some (mkPUlC)
  · have k3 : (0 : Int32).toInt = 0 := by decide
    replace c1 := i_ne.mp c1
    have hp := pw_pos sg
    exact sLX9_numberOf_c32_19 hI (by omega) (by omega) (by omega) (by omega) (by omega) (by omega) (by omega)
set_option maxHeartbeats 4000000 in
theorem sX11_number {sg : Sg} (hI : IC sg) : Ok (PLC MX11_number sg) (fX11_number sg) := by
  have hS : StC MX11_number sg sg := StC.rf hI
  unfold fX11_number
  refine bnd2_piC (sX7_readFrom  hS.1) (fun y1 sg2 hsg2 qy1 zy1 => ?_)
  have hS1 := hS.tr hsg2 (by decide)
  refine ok_ite (fun c2 => ?_) (fun c2 => ?_)
  · have k3 : (0 : Int32).toInt = 0 := by decide
    replace c2 := i_eq.mp c2
    exact ok_some (mkPLC hS1)
  · have k4 : (0 : Int32).toInt = 0 := by decide
    replace c2 := i_ne.mp c2
    refine bnd1_pvxC (sX9_solve  hS1.1) (fun sg5 hsg5 xsg5 => ?_)
    replace xsg5 : pw sg5 ≤ (sg5 99 63).toInt ∧ pw sg5 ≤ (sg5 99 64).toInt ∧ (sg5 3 1).toInt = (sg5 1 1).toInt := xsg5
    have hS5 := hS1.tr hsg5 (by decide)
    refine bnd2_pulC (sX9_numberOf_c32  hS5.1 (by omega) (by omega)) (fun y8 => ?_)
    exact ok_some (mkPLC hS5)
set_option maxHeartbeats 4000000 in
theorem sJ7_fill_031fb_c66_5 {s0 : Sg} {r5 : (Int32 × Int32 × Int32 × Sg) → Option (Sg)} {v1 : Int32} {v2 : Int32} {v3 : Int32} {sg : Sg} (hS : StC MJ7_fill_031fb_c66 s0 sg) (v1l : 0 ≤ v1.toInt) (v1h : v1.toInt ≤ 0) (v2l : 0 ≤ v2.toInt) (v2h : v2.toInt ≤ 4096) (v3l : 1 ≤ v3.toInt) (v3h : v3.toInt ≤ 4096) (xf : v3.toInt = (sg 99 66).toInt) (hr5 : ∀ (v1' : Int32) (v2' : Int32) (v3' : Int32) (sg' : Sg), StC MJ7_fill_031fb_c66 s0 sg' → 0 ≤ v1'.toInt → v1'.toInt ≤ 0 → 0 ≤ v2'.toInt → v2'.toInt ≤ 4096 → 1 ≤ v3'.toInt → v3'.toInt ≤ 4096 → (v3'.toInt = (sg' 99 66).toInt) → v2.toInt < v2'.toInt → Ok (PVC MJ7_fill_031fb_c66 s0) (r5 (v1', v2', v3', sg'))) : Ok (PVC MJ7_fill_031fb_c66 s0) (fJ7_fill_031fb_c66_5 r5 v1 v2 v3 sg) := by
  unfold fJ7_fill_031fb_c66_5
  refine ok_ite (fun c1 => ?_) (fun c1 => ?_)
  · replace c1 := i_le.mp c1
    exact ok_some (mkPVC hS)
  · replace c1 := i_nle.mp c1
    have f2 := rdC99_66 hS.1.1
    refine ok_ginL (by omega) (by omega) ?_
    refine ok_lt (fun sg3 esg3 => ?_)
    have hS3 := upC66 hS (by decide) esg3
    have e4 : (sg3 99 66).toInt = (sg 99 66).toInt := by rw [esg3]; rfl
    refine ok_lt (fun x4 ex4 => ?_)
    replace ex4 : x4.toInt = v2.toInt + 1 := by rw [ex4]; exact add_c 1 (by decide) (by omega) (by omega)
    exact hr5 v1 x4 v3 sg3 hS3 (by omega) (by omega) (by omega) (by omega) (by omega) (by omega) (by omega) (by omega)
set_option maxHeartbeats 4000000 in
theorem sLJ7_fill_031fb_c66_5 {s0 : Sg} {v1 : Int32} {v2 : Int32} {v3 : Int32} {sg : Sg} (hS : StC MJ7_fill_031fb_c66 s0 sg) (v1l : 0 ≤ v1.toInt) (v1h : v1.toInt ≤ 0) (v2l : 0 ≤ v2.toInt) (v2h : v2.toInt ≤ 4096) (v3l : 1 ≤ v3.toInt) (v3h : v3.toInt ≤ 4096) (xf : (v3.toInt = (sg 99 66).toInt)) : Ok (PVC MJ7_fill_031fb_c66 s0) (LJ7_fill_031fb_c66_5 (v1, v2, v3, sg)) := by
  unfold LJ7_fill_031fb_c66_5
  refine ok_loop (I := fun (z : Int32 × Int32 × Int32 × Sg) => StC MJ7_fill_031fb_c66 s0 z.2.2.2 ∧ 0 ≤ z.1.toInt ∧ z.1.toInt ≤ 0 ∧ 0 ≤ z.2.1.toInt ∧ z.2.1.toInt ≤ 4096 ∧ 1 ≤ z.2.2.1.toInt ∧ z.2.2.1.toInt ≤ 4096 ∧ (z.2.2.1.toInt = (z.2.2.2 99 66).toInt)) (m := fun (z : Int32 × Int32 × Int32 × Sg) => (4097 - z.2.1.toInt).toNat) _ ?_ ?_ _ ?_
  · intro z hz
    obtain ⟨h0, h1, h2, h3, h4, h5, h6, h7⟩ := hz
    show (4097 - z.2.1.toInt).toNat < 10000
    omega
  · intro rec z hz hrec
    obtain ⟨v1, v2, v3, sg⟩ := z
    replace hz : StC MJ7_fill_031fb_c66 s0 sg ∧ 0 ≤ v1.toInt ∧ v1.toInt ≤ 0 ∧ 0 ≤ v2.toInt ∧ v2.toInt ≤ 4096 ∧ 1 ≤ v3.toInt ∧ v3.toInt ≤ 4096 ∧ (v3.toInt = (sg 99 66).toInt) := hz
    obtain ⟨h0, h1, h2, h3, h4, h5, h6, h7⟩ := hz
    show Ok (PVC MJ7_fill_031fb_c66 s0) (fJ7_fill_031fb_c66_5 rec v1 v2 v3 sg)
    exact sJ7_fill_031fb_c66_5 h0 h1 h2 h3 h4 h5 h6 h7 (fun v1' v2' v3' sg' g0 g1 g2 g3 g4 g5 g6 g7 g8 => hrec (v1', v2', v3', sg') ⟨g0, g1, g2, g3, g4, g5, g6, g7⟩ (show (4097 - v2'.toInt).toNat < (4097 - v2.toInt).toNat by omega))
  · exact ⟨hS, v1l, v1h, v2l, v2h, v3l, v3h, xf⟩
set_option maxHeartbeats 4000000 in
theorem sJ7_fill_031fb_c66 {v1 : Int32} {sg : Sg} (hI : IC sg) (v1l : 0 ≤ v1.toInt) (v1h : v1.toInt ≤ 0) : Ok (PVC MJ7_fill_031fb_c66 sg) (fJ7_fill_031fb_c66 v1 sg) := by
  have hS : StC MJ7_fill_031fb_c66 sg sg := StC.rf hI
  unfold fJ7_fill_031fb_c66
  have f1 := rdC99_66 hS.1.1
  have f2 := ofn_i (x := (sg 99 66)) (by omega)
  refine ok_lt (fun x1 ex1 => ?_)
  replace ex1 := congrArg Int32.toInt ex1
  have k3 : (0 : Int32).toInt = 0 := by decide
  exact sLJ7_fill_031fb_c66_5 hS (by omega) (by omega) (by omega) (by omega) (by omega) (by omega) (by omega)
set_option maxHeartbeats 4000000 in
theorem sJ7_fill_53178_c24_5 {s0 : Sg} {r5 : (Int32 × Int32 × Int32 × Sg) → Option (Sg)} {v1 : Int32} {v2 : Int32} {v3 : Int32} {sg : Sg} (hS : StC MJ7_fill_53178_c24 s0 sg) (v1l : 0 ≤ v1.toInt) (v1h : v1.toInt ≤ 0) (v2l : 0 ≤ v2.toInt) (v2h : v2.toInt ≤ 12) (v3l : 12 ≤ v3.toInt) (v3h : v3.toInt ≤ 12) (hr5 : ∀ (v1' : Int32) (v2' : Int32) (v3' : Int32) (sg' : Sg), StC MJ7_fill_53178_c24 s0 sg' → 0 ≤ v1'.toInt → v1'.toInt ≤ 0 → 0 ≤ v2'.toInt → v2'.toInt ≤ 12 → 12 ≤ v3'.toInt → v3'.toInt ≤ 12 → v2.toInt < v2'.toInt → Ok (PVC MJ7_fill_53178_c24 s0) (r5 (v1', v2', v3', sg'))) : Ok (PVC MJ7_fill_53178_c24 s0) (fJ7_fill_53178_c24_5 r5 v1 v2 v3 sg) := by
  unfold fJ7_fill_53178_c24_5
  refine ok_ite (fun c1 => ?_) (fun c1 => ?_)
  · replace c1 := i_le.mp c1
    exact ok_some (mkPVC hS)
  · replace c1 := i_nle.mp c1
    refine ok_gin (by omega) (by omega) ?_
    refine ok_lt (fun sg3 esg3 => ?_)
    have hS2 := upC24 hS (by decide) esg3 (by omega) (by omega)
    refine ok_lt (fun x4 ex4 => ?_)
    replace ex4 : x4.toInt = v2.toInt + 1 := by rw [ex4]; exact add_c 1 (by decide) (by omega) (by omega)
    exact hr5 v1 x4 v3 sg3 hS2 (by omega) (by omega) (by omega) (by omega) (by omega) (by omega) (by omega)
set_option maxHeartbeats 4000000 in
theorem sLJ7_fill_53178_c24_5 {s0 : Sg} {v1 : Int32} {v2 : Int32} {v3 : Int32} {sg : Sg} (hS : StC MJ7_fill_53178_c24 s0 sg) (v1l : 0 ≤ v1.toInt) (v1h : v1.toInt ≤ 0) (v2l : 0 ≤ v2.toInt) (v2h : v2.toInt ≤ 12) (v3l : 12 ≤ v3.toInt) (v3h : v3.toInt ≤ 12) : Ok (PVC MJ7_fill_53178_c24 s0) (LJ7_fill_53178_c24_5 (v1, v2, v3, sg)) := by
  unfold LJ7_fill_53178_c24_5
  refine ok_loop (I := fun (z : Int32 × Int32 × Int32 × Sg) => StC MJ7_fill_53178_c24 s0 z.2.2.2 ∧ 0 ≤ z.1.toInt ∧ z.1.toInt ≤ 0 ∧ 0 ≤ z.2.1.toInt ∧ z.2.1.toInt ≤ 12 ∧ 12 ≤ z.2.2.1.toInt ∧ z.2.2.1.toInt ≤ 12) (m := fun (z : Int32 × Int32 × Int32 × Sg) => (13 - z.2.1.toInt).toNat) _ ?_ ?_ _ ?_
  · intro z hz
    obtain ⟨h0, h1, h2, h3, h4, h5, h6⟩ := hz
    show (13 - z.2.1.toInt).toNat < 10000
    omega
  · intro rec z hz hrec
    obtain ⟨v1, v2, v3, sg⟩ := z
    replace hz : StC MJ7_fill_53178_c24 s0 sg ∧ 0 ≤ v1.toInt ∧ v1.toInt ≤ 0 ∧ 0 ≤ v2.toInt ∧ v2.toInt ≤ 12 ∧ 12 ≤ v3.toInt ∧ v3.toInt ≤ 12 := hz
    obtain ⟨h0, h1, h2, h3, h4, h5, h6⟩ := hz
    show Ok (PVC MJ7_fill_53178_c24 s0) (fJ7_fill_53178_c24_5 rec v1 v2 v3 sg)
    exact sJ7_fill_53178_c24_5 h0 h1 h2 h3 h4 h5 h6 (fun v1' v2' v3' sg' g0 g1 g2 g3 g4 g5 g6 g7 => hrec (v1', v2', v3', sg') ⟨g0, g1, g2, g3, g4, g5, g6⟩ (show (13 - v2'.toInt).toNat < (13 - v2.toInt).toNat by omega))
  · exact ⟨hS, v1l, v1h, v2l, v2h, v3l, v3h⟩
set_option maxHeartbeats 4000000 in
theorem sJ7_fill_53178_c24 {v1 : Int32} {sg : Sg} (hI : IC sg) (v1l : 0 ≤ v1.toInt) (v1h : v1.toInt ≤ 0) : Ok (PVC MJ7_fill_53178_c24 sg) (fJ7_fill_53178_c24 v1 sg) := by
  have hS : StC MJ7_fill_53178_c24 sg sg := StC.rf hI
  unfold fJ7_fill_53178_c24
  have k1 : (0 : Int32).toInt = 0 := by decide
  have k2 : (12 : Int32).toInt = 12 := by decide
  exact sLJ7_fill_53178_c24_5 hS (by omega) (by omega) (by omega) (by omega) (by omega) (by omega)
set_option maxHeartbeats 4000000 in
theorem sX9_agree_171 {s0 : Sg} {r77 : (Int32 × Int32 × Sg) → Option (Sg)} {v1 : Int32} {v2 : Int32} {sg : Sg} (hS : StC MX9_agree s0 sg) (v1l : 1 ≤ v1.toInt) (v1h : v1.toInt ≤ 4095) (v2l : 0 ≤ v2.toInt) (v2h : v2.toInt ≤ 4095) (xv : v1.toInt = pw sg - 1) (xb : pw sg ≤ (sg 99 63).toInt) (xc : pw sg ≤ (sg 99 66).toInt) (xa : v2.toInt < v1.toInt) (hr77 : ∀ (v1' : Int32) (v2' : Int32) (sg' : Sg), StC MX9_agree s0 sg' → 0 ≤ v1'.toInt → v1'.toInt ≤ 4095 → 0 ≤ v2'.toInt → v2'.toInt ≤ 4096 → (v1'.toInt = pw sg' - 1) → (pw sg' ≤ (sg' 99 63).toInt) → (pw sg' ≤ (sg' 99 66).toInt) → v2.toInt < v2'.toInt → Ok (PVC MX9_agree s0) (r77 (v1', v2', sg'))) : Ok (PVC MX9_agree s0) (fX9_agree_171 r77 v1 v2 sg) := by
  unfold fX9_agree_171
  refine ok_lt (fun x1 ex1 => ?_)
  replace ex1 : x1.toInt = v2.toInt + 1 := by rw [ex1]; exact add_c 1 (by decide) (by omega) (by omega)
  exact hr77 v1 x1 sg hS (by omega) (by omega) (by omega) (by omega) (by omega) (by omega) (by omega) (by omega)
set_option maxHeartbeats 4000000 in
theorem sX9_agree_165 {s0 : Sg} {r77 : (Int32 × Int32 × Sg) → Option (Sg)} {r105 : (Int32 × Int32 × Int32 × Int32 × Sg) → Option (Sg)} {v1 : Int32} {v2 : Int32} {v3 : Int32} {v4 : Int32} {sg : Sg} (hS : StC MX9_agree s0 sg) (v1l : 1 ≤ v1.toInt) (v1h : v1.toInt ≤ 4095) (v2l : 0 ≤ v2.toInt) (v2h : v2.toInt ≤ 4095) (v3l : 0 ≤ v3.toInt) (v3h : v3.toInt ≤ 4095) (v4l : 0 ≤ v4.toInt) (v4h : v4.toInt ≤ 11) (xv : v1.toInt = pw sg - 1) (xb : pw sg ≤ (sg 99 63).toInt) (xc : pw sg ≤ (sg 99 66).toInt) (xa : v2.toInt < v1.toInt) (hr77 : ∀ (v1' : Int32) (v2' : Int32) (sg' : Sg), StC MX9_agree s0 sg' → 0 ≤ v1'.toInt → v1'.toInt ≤ 4095 → 0 ≤ v2'.toInt → v2'.toInt ≤ 4096 → (v1'.toInt = pw sg' - 1) → (pw sg' ≤ (sg' 99 63).toInt) → (pw sg' ≤ (sg' 99 66).toInt) → v2.toInt < v2'.toInt → Ok (PVC MX9_agree s0) (r77 (v1', v2', sg'))) (hr105 : ∀ (v1' : Int32) (v2' : Int32) (v3' : Int32) (v4' : Int32) (sg' : Sg), StC MX9_agree s0 sg' → 1 ≤ v1'.toInt → v1'.toInt ≤ 4095 → 0 ≤ v2'.toInt → v2'.toInt ≤ 4095 → 0 ≤ v3'.toInt → v3'.toInt ≤ 4095 → 0 ≤ v4'.toInt → v4'.toInt ≤ 12 → (v1'.toInt = pw sg' - 1) → (pw sg' ≤ (sg' 99 63).toInt) → (pw sg' ≤ (sg' 99 66).toInt) → (v2'.toInt < v1'.toInt) → (∀ (v1'' : Int32) (v2'' : Int32) (sg'' : Sg), StC MX9_agree s0 sg'' → 0 ≤ v1''.toInt → v1''.toInt ≤ 4095 → 0 ≤ v2''.toInt → v2''.toInt ≤ 4096 → (v1''.toInt = pw sg'' - 1) → (pw sg'' ≤ (sg'' 99 63).toInt) → (pw sg'' ≤ (sg'' 99 66).toInt) → v2'.toInt < v2''.toInt → Ok (PVC MX9_agree s0) (r77 (v1'', v2'', sg''))) → v4.toInt < v4'.toInt → Ok (PVC MX9_agree s0) (r105 (v1', v2', v3', v4', sg'))) : Ok (PVC MX9_agree s0) (fX9_agree_165 r77 r105 v1 v2 v3 v4 sg) := by
  unfold fX9_agree_165
  refine ok_lt (fun x1 ex1 => ?_)
  replace ex1 : x1.toInt = v4.toInt + 1 := by rw [ex1]; exact add_c 1 (by decide) (by omega) (by omega)
  exact hr105 v1 v2 v3 x1 sg hS (by omega) (by omega) (by omega) (by omega) (by omega) (by omega) (by omega) (by omega) (by omega) (by omega) (by omega) (by omega) hr77 (by omega)
set_option maxHeartbeats 4000000 in
theorem sX9_agree_105 {s0 : Sg} {r77 : (Int32 × Int32 × Sg) → Option (Sg)} {r105 : (Int32 × Int32 × Int32 × Int32 × Sg) → Option (Sg)} {v1 : Int32} {v2 : Int32} {v3 : Int32} {v4 : Int32} {sg : Sg} (hS : StC MX9_agree s0 sg) (v1l : 1 ≤ v1.toInt) (v1h : v1.toInt ≤ 4095) (v2l : 0 ≤ v2.toInt) (v2h : v2.toInt ≤ 4095) (v3l : 0 ≤ v3.toInt) (v3h : v3.toInt ≤ 4095) (v4l : 0 ≤ v4.toInt) (v4h : v4.toInt ≤ 12) (xv : v1.toInt = pw sg - 1) (xb : pw sg ≤ (sg 99 63).toInt) (xc : pw sg ≤ (sg 99 66).toInt) (xa : v2.toInt < v1.toInt) (hr77 : ∀ (v1' : Int32) (v2' : Int32) (sg' : Sg), StC MX9_agree s0 sg' → 0 ≤ v1'.toInt → v1'.toInt ≤ 4095 → 0 ≤ v2'.toInt → v2'.toInt ≤ 4096 → (v1'.toInt = pw sg' - 1) → (pw sg' ≤ (sg' 99 63).toInt) → (pw sg' ≤ (sg' 99 66).toInt) → v2.toInt < v2'.toInt → Ok (PVC MX9_agree s0) (r77 (v1', v2', sg'))) (hr105 : ∀ (v1' : Int32) (v2' : Int32) (v3' : Int32) (v4' : Int32) (sg' : Sg), StC MX9_agree s0 sg' → 1 ≤ v1'.toInt → v1'.toInt ≤ 4095 → 0 ≤ v2'.toInt → v2'.toInt ≤ 4095 → 0 ≤ v3'.toInt → v3'.toInt ≤ 4095 → 0 ≤ v4'.toInt → v4'.toInt ≤ 12 → (v1'.toInt = pw sg' - 1) → (pw sg' ≤ (sg' 99 63).toInt) → (pw sg' ≤ (sg' 99 66).toInt) → (v2'.toInt < v1'.toInt) → (∀ (v1'' : Int32) (v2'' : Int32) (sg'' : Sg), StC MX9_agree s0 sg'' → 0 ≤ v1''.toInt → v1''.toInt ≤ 4095 → 0 ≤ v2''.toInt → v2''.toInt ≤ 4096 → (v1''.toInt = pw sg'' - 1) → (pw sg'' ≤ (sg'' 99 63).toInt) → (pw sg'' ≤ (sg'' 99 66).toInt) → v2'.toInt < v2''.toInt → Ok (PVC MX9_agree s0) (r77 (v1'', v2'', sg''))) → v4.toInt < v4'.toInt → Ok (PVC MX9_agree s0) (r105 (v1', v2', v3', v4', sg'))) : Ok (PVC MX9_agree s0) (fX9_agree_105 r77 r105 v1 v2 v3 v4 sg) := by
  unfold fX9_agree_105
  refine ok_ite (fun c1 => ?_) (fun c1 => ?_)
  · have f2 := rdC3_2 hS.1.1
    replace c1 := i_le.mp c1
    exact sX9_agree_171 hS (by omega) (by omega) (by omega) (by omega) (by omega) (by omega) (by omega) (by omega) hr77
  · have f3 := rdC3_2 hS.1.1
    replace c1 := i_nle.mp c1
    refine ok_ite (fun c4 => ?_) (fun c4 => ?_)
    · have f5 := shr_i (a := v3) (v := (v4 &&& 31)) (by omega)
      have k6 : (0 : Int32).toInt = 0 := by decide
      replace c4 := i_eq.mp c4
      exact sX9_agree_171 hS (by omega) (by omega) (by omega) (by omega) (by omega) (by omega) (by omega) (by omega) hr77
    · have f7 := shr_i (a := v3) (v := (v4 &&& 31)) (by omega)
      have k8 : (0 : Int32).toInt = 0 := by decide
      replace c4 := i_ne.mp c4
      refine bnd2_pxC (sX11_isIn (v0 := v3) (v1 := v4) hS.1 (by omega) (by omega) (by omega) (by omega)) (fun y3 qy3 zy3 xy3 => ?_)
      replace xy3 : y3.toInt = 0 ∨ 0 < (v3 >>> (v4 &&& 31)).toInt := xy3
      refine ok_ite (fun c9 => ?_) (fun c9 => ?_)
      · replace c9 := i_eq.mp c9
        exact sX9_agree_165 hS (by omega) (by omega) (by omega) (by omega) (by omega) (by omega) (by omega) (by omega) (by omega) (by omega) (by omega) (by omega) hr77 hr105
      · replace c9 := i_ne.mp c9
        have f10 := shl_i (v := v4) 11 2048 (by decide) (by decide) (by omega) (by omega)
        have f11 := or_pw (sg := sg) (a := v2) (v := v4) (by omega) (by omega) (by omega) (by omega) (by omega)
        have f12 := or_i (a := v2) (b := ((1 : Int32) <<< (v4 &&& 31))) 12 4096 (by decide) (by decide) (by omega) (by omega) (by omega) (by omega)
        refine ok_lt (fun x8 ex8 => ?_)
        replace ex8 := congrArg Int32.toInt ex8
        have f13 := rdC99_66 hS.1.1
        refine ok_ginL (by omega) (by omega) ?_
        refine ok_lt (fun sg10 esg10 => ?_)
        have hS14 := upC66 hS (by decide) esg10
        have e15 : pw sg10 = pw sg := pw_cg (by rw [esg10]; rfl)
        have e16 : (sg10 3 2).toInt = (sg 3 2).toInt := by rw [esg10]; rfl
        have e17 : (sg10 99 63).toInt = (sg 99 63).toInt := by rw [esg10]; rfl
        have e18 : (sg10 99 66).toInt = (sg 99 66).toInt := by rw [esg10]; rfl
        refine ok_gin (by omega) (by omega) ?_
        have f19 := rdC24 hS14.1.1 (j := v4.toNatClampNeg)
        have f20 := and_l (a := v1) (b := (x8 ^^^ (-1 : Int32))) (by omega)
        have f21 := or_i (a := (sg10 24 v4.toNatClampNeg)) (b := (v1 &&& (x8 ^^^ (-1 : Int32)))) 12 4096 (by decide) (by decide) (by omega) (by omega) (by omega) (by omega)
        refine ok_lt (fun x12 ex12 => ?_)
        replace ex12 := congrArg Int32.toInt ex12
        refine ok_gin (by omega) (by omega) ?_
        refine ok_lt (fun sg14 esg14 => ?_)
        have hS22 := upC24 hS14 (by decide) esg14 (by omega) (by omega)
        have e23 : pw sg14 = pw sg10 := pw_cg (by rw [esg14]; rfl)
        have e24 : (sg14 3 2).toInt = (sg10 3 2).toInt := by rw [esg14]; rfl
        have e25 : (sg14 99 63).toInt = (sg10 99 63).toInt := by rw [esg14]; rfl
        have e26 : (sg14 99 66).toInt = (sg10 99 66).toInt := by rw [esg14]; rfl
        exact sX9_agree_165 hS22 (by omega) (by omega) (by omega) (by omega) (by omega) (by omega) (by omega) (by omega) (by omega) (by omega) (by omega) (by omega) hr77 hr105
set_option maxHeartbeats 4000000 in
theorem sLX9_agree_105 {s0 : Sg} {r77 : (Int32 × Int32 × Sg) → Option (Sg)} {v1 : Int32} {v2 : Int32} {v3 : Int32} {v4 : Int32} {sg : Sg} (hS : StC MX9_agree s0 sg) (v1l : 1 ≤ v1.toInt) (v1h : v1.toInt ≤ 4095) (v2l : 0 ≤ v2.toInt) (v2h : v2.toInt ≤ 4095) (v3l : 0 ≤ v3.toInt) (v3h : v3.toInt ≤ 4095) (v4l : 0 ≤ v4.toInt) (v4h : v4.toInt ≤ 12) (xv : (v1.toInt = pw sg - 1)) (xb : (pw sg ≤ (sg 99 63).toInt)) (xc : (pw sg ≤ (sg 99 66).toInt)) (xa : (v2.toInt < v1.toInt)) (hr77 : ∀ (v1' : Int32) (v2' : Int32) (sg' : Sg), StC MX9_agree s0 sg' → 0 ≤ v1'.toInt → v1'.toInt ≤ 4095 → 0 ≤ v2'.toInt → v2'.toInt ≤ 4096 → (v1'.toInt = pw sg' - 1) → (pw sg' ≤ (sg' 99 63).toInt) → (pw sg' ≤ (sg' 99 66).toInt) → v2.toInt < v2'.toInt → Ok (PVC MX9_agree s0) (r77 (v1', v2', sg'))) : Ok (PVC MX9_agree s0) (LX9_agree_105 r77 (v1, v2, v3, v4, sg)) := by
  unfold LX9_agree_105
  refine ok_loop (I := fun (z : Int32 × Int32 × Int32 × Int32 × Sg) => StC MX9_agree s0 z.2.2.2.2 ∧ 1 ≤ z.1.toInt ∧ z.1.toInt ≤ 4095 ∧ 0 ≤ z.2.1.toInt ∧ z.2.1.toInt ≤ 4095 ∧ 0 ≤ z.2.2.1.toInt ∧ z.2.2.1.toInt ≤ 4095 ∧ 0 ≤ z.2.2.2.1.toInt ∧ z.2.2.2.1.toInt ≤ 12 ∧ (z.1.toInt = pw z.2.2.2.2 - 1) ∧ (pw z.2.2.2.2 ≤ (z.2.2.2.2 99 63).toInt) ∧ (pw z.2.2.2.2 ≤ (z.2.2.2.2 99 66).toInt) ∧ (z.2.1.toInt < z.1.toInt) ∧ (∀ (v1' : Int32) (v2' : Int32) (sg' : Sg), StC MX9_agree s0 sg' → 0 ≤ v1'.toInt → v1'.toInt ≤ 4095 → 0 ≤ v2'.toInt → v2'.toInt ≤ 4096 → (v1'.toInt = pw sg' - 1) → (pw sg' ≤ (sg' 99 63).toInt) → (pw sg' ≤ (sg' 99 66).toInt) → z.2.1.toInt < v2'.toInt → Ok (PVC MX9_agree s0) (r77 (v1', v2', sg')))) (m := fun (z : Int32 × Int32 × Int32 × Int32 × Sg) => (13 - z.2.2.2.1.toInt).toNat) _ ?_ ?_ _ ?_
  · intro z hz
    obtain ⟨h0, h1, h2, h3, h4, h5, h6, h7, h8, h9, h10, h11, h12, h13⟩ := hz
    show (13 - z.2.2.2.1.toInt).toNat < 10000
    omega
  · intro rec z hz hrec
    obtain ⟨v1, v2, v3, v4, sg⟩ := z
    replace hz : StC MX9_agree s0 sg ∧ 1 ≤ v1.toInt ∧ v1.toInt ≤ 4095 ∧ 0 ≤ v2.toInt ∧ v2.toInt ≤ 4095 ∧ 0 ≤ v3.toInt ∧ v3.toInt ≤ 4095 ∧ 0 ≤ v4.toInt ∧ v4.toInt ≤ 12 ∧ (v1.toInt = pw sg - 1) ∧ (pw sg ≤ (sg 99 63).toInt) ∧ (pw sg ≤ (sg 99 66).toInt) ∧ (v2.toInt < v1.toInt) ∧ (∀ (v1' : Int32) (v2' : Int32) (sg' : Sg), StC MX9_agree s0 sg' → 0 ≤ v1'.toInt → v1'.toInt ≤ 4095 → 0 ≤ v2'.toInt → v2'.toInt ≤ 4096 → (v1'.toInt = pw sg' - 1) → (pw sg' ≤ (sg' 99 63).toInt) → (pw sg' ≤ (sg' 99 66).toInt) → v2.toInt < v2'.toInt → Ok (PVC MX9_agree s0) (r77 (v1', v2', sg'))) := hz
    obtain ⟨h0, h1, h2, h3, h4, h5, h6, h7, h8, h9, h10, h11, h12, h13⟩ := hz
    show Ok (PVC MX9_agree s0) (fX9_agree_105 r77 rec v1 v2 v3 v4 sg)
    exact sX9_agree_105 h0 h1 h2 h3 h4 h5 h6 h7 h8 h9 h10 h11 h12 h13 (fun v1' v2' v3' v4' sg' g0 g1 g2 g3 g4 g5 g6 g7 g8 g9 g10 g11 g12 g13 g14 => hrec (v1', v2', v3', v4', sg') ⟨g0, g1, g2, g3, g4, g5, g6, g7, g8, g9, g10, g11, g12, g13⟩ (show (13 - v4'.toInt).toNat < (13 - v4.toInt).toNat by omega))
  · exact ⟨hS, v1l, v1h, v2l, v2h, v3l, v3h, v4l, v4h, xv, xb, xc, xa, hr77⟩
set_option maxHeartbeats 4000000 in
theorem sX9_agree_101 {s0 : Sg} {r77 : (Int32 × Int32 × Sg) → Option (Sg)} {v1 : Int32} {v2 : Int32} {w0 : Int32} {sg : Sg} (hS : StC MX9_agree s0 sg) (v1l : 1 ≤ v1.toInt) (v1h : v1.toInt ≤ 4095) (v2l : 0 ≤ v2.toInt) (v2h : v2.toInt ≤ 4095) (w0l : 0 ≤ w0.toInt) (w0h : w0.toInt ≤ 4095) (xv : v1.toInt = pw sg - 1) (xb : pw sg ≤ (sg 99 63).toInt) (xc : pw sg ≤ (sg 99 66).toInt) (xa : v2.toInt < v1.toInt) (hr77 : ∀ (v1' : Int32) (v2' : Int32) (sg' : Sg), StC MX9_agree s0 sg' → 0 ≤ v1'.toInt → v1'.toInt ≤ 4095 → 0 ≤ v2'.toInt → v2'.toInt ≤ 4096 → (v1'.toInt = pw sg' - 1) → (pw sg' ≤ (sg' 99 63).toInt) → (pw sg' ≤ (sg' 99 66).toInt) → v2.toInt < v2'.toInt → Ok (PVC MX9_agree s0) (r77 (v1', v2', sg'))) : Ok (PVC MX9_agree s0) (fX9_agree_101 r77 v1 v2 w0 sg) := by
  unfold fX9_agree_101
  have k1 : (0 : Int32).toInt = 0 := by decide
  exact sLX9_agree_105 hS (by omega) (by omega) (by omega) (by omega) (by omega) (by omega) (by omega) (by omega) (by omega) (by omega) (by omega) (by omega) hr77
set_option maxHeartbeats 4000000 in
theorem sX9_agree_77 {s0 : Sg} {r77 : (Int32 × Int32 × Sg) → Option (Sg)} {v1 : Int32} {v2 : Int32} {sg : Sg} (hS : StC MX9_agree s0 sg) (v1l : 0 ≤ v1.toInt) (v1h : v1.toInt ≤ 4095) (v2l : 0 ≤ v2.toInt) (v2h : v2.toInt ≤ 4096) (xv : v1.toInt = pw sg - 1) (xb : pw sg ≤ (sg 99 63).toInt) (xc : pw sg ≤ (sg 99 66).toInt) (hr77 : ∀ (v1' : Int32) (v2' : Int32) (sg' : Sg), StC MX9_agree s0 sg' → 0 ≤ v1'.toInt → v1'.toInt ≤ 4095 → 0 ≤ v2'.toInt → v2'.toInt ≤ 4096 → (v1'.toInt = pw sg' - 1) → (pw sg' ≤ (sg' 99 63).toInt) → (pw sg' ≤ (sg' 99 66).toInt) → v2.toInt < v2'.toInt → Ok (PVC MX9_agree s0) (r77 (v1', v2', sg'))) : Ok (PVC MX9_agree s0) (fX9_agree_77 r77 v1 v2 sg) := by
  unfold fX9_agree_77
  refine ok_ite (fun c1 => ?_) (fun c1 => ?_)
  · replace c1 := i_le.mp c1
    exact ok_some (mkPVC hS)
  · replace c1 := i_nle.mp c1
    have f2 := rdC99_66 hS.1.1
    refine ok_ginL (by omega) (by omega) ?_
    refine ok_ite (fun c3 => ?_) (fun c3 => ?_)
    · have k4 : (1 : Int32).toInt = 1 := by decide
      replace c3 := i_eq.mp c3
      refine bnd2_pxC (sX9_bestChoices (v1 := v2) hS.1 (by omega) (by omega) (by omega) (by omega)) (fun y4 qy4 zy4 xy4 => ?_)
      replace xy4 : 0 ≤ y4.toInt ∧ y4.toInt < pw sg := xy4
      exact sX9_agree_101 hS (by omega) (by omega) (by omega) (by omega) (by omega) (by omega) (by omega) (by omega) (by omega) (by omega) hr77
    · have k5 : (1 : Int32).toInt = 1 := by decide
      replace c3 := i_ne.mp c3
      have k6 : (0 : Int32).toInt = 0 := by decide
      exact sX9_agree_101 hS (by omega) (by omega) (by omega) (by omega) (by omega) (by omega) (by omega) (by omega) (by omega) (by omega) hr77
set_option maxHeartbeats 4000000 in
theorem sLX9_agree_77 {s0 : Sg} {v1 : Int32} {v2 : Int32} {sg : Sg} (hS : StC MX9_agree s0 sg) (v1l : 0 ≤ v1.toInt) (v1h : v1.toInt ≤ 4095) (v2l : 0 ≤ v2.toInt) (v2h : v2.toInt ≤ 4096) (xv : (v1.toInt = pw sg - 1)) (xb : (pw sg ≤ (sg 99 63).toInt)) (xc : (pw sg ≤ (sg 99 66).toInt)) : Ok (PVC MX9_agree s0) (LX9_agree_77 (v1, v2, sg)) := by
  unfold LX9_agree_77
  refine ok_loop (I := fun (z : Int32 × Int32 × Sg) => StC MX9_agree s0 z.2.2 ∧ 0 ≤ z.1.toInt ∧ z.1.toInt ≤ 4095 ∧ 0 ≤ z.2.1.toInt ∧ z.2.1.toInt ≤ 4096 ∧ (z.1.toInt = pw z.2.2 - 1) ∧ (pw z.2.2 ≤ (z.2.2 99 63).toInt) ∧ (pw z.2.2 ≤ (z.2.2 99 66).toInt)) (m := fun (z : Int32 × Int32 × Sg) => (4097 - z.2.1.toInt).toNat) _ ?_ ?_ _ ?_
  · intro z hz
    obtain ⟨h0, h1, h2, h3, h4, h5, h6, h7⟩ := hz
    show (4097 - z.2.1.toInt).toNat < 10000
    omega
  · intro rec z hz hrec
    obtain ⟨v1, v2, sg⟩ := z
    replace hz : StC MX9_agree s0 sg ∧ 0 ≤ v1.toInt ∧ v1.toInt ≤ 4095 ∧ 0 ≤ v2.toInt ∧ v2.toInt ≤ 4096 ∧ (v1.toInt = pw sg - 1) ∧ (pw sg ≤ (sg 99 63).toInt) ∧ (pw sg ≤ (sg 99 66).toInt) := hz
    obtain ⟨h0, h1, h2, h3, h4, h5, h6, h7⟩ := hz
    show Ok (PVC MX9_agree s0) (fX9_agree_77 rec v1 v2 sg)
    exact sX9_agree_77 h0 h1 h2 h3 h4 h5 h6 h7 (fun v1' v2' sg' g0 g1 g2 g3 g4 g5 g6 g7 g8 => hrec (v1', v2', sg') ⟨g0, g1, g2, g3, g4, g5, g6, g7⟩ (show (4097 - v2'.toInt).toNat < (4097 - v2.toInt).toNat by omega))
  · exact ⟨hS, v1l, v1h, v2l, v2h, xv, xb, xc⟩
set_option maxHeartbeats 4000000 in
theorem sX9_agree_52 {s0 : Sg} {v1 : Int32} {sg : Sg} (hS : StC MX9_agree s0 sg) (v1l : 0 ≤ v1.toInt) (v1h : v1.toInt ≤ 4095) (xv : v1.toInt = pw sg - 1) (xb : pw sg ≤ (sg 99 63).toInt) (xc : pw sg ≤ (sg 99 66).toInt) : Ok (PVC MX9_agree s0) (fX9_agree_52 v1 sg) := by
  unfold fX9_agree_52
  have k1 : (0 : Int32).toInt = 0 := by decide
  refine bnd1_pvC (sJ7_fill_031fb_c66 (v1 := (0 : Int32)) hS.1 (by omega) (by omega)) (fun sg1 hsg1 => ?_)
  have e2 : pw sg1 = pw sg := pw_cg (congrFun (hsg1.fr 3 (by decide)) _)
  have e3 : (sg1 99 63).toInt = (sg 99 63).toInt := congrArg Int32.toInt (congrFun (hsg1.fr 99 (by decide)) _)
  have e4 : (sg1 99 66).toInt = (sg 99 66).toInt := congrArg Int32.toInt (congrFun (hsg1.fr 99 (by decide)) _)
  have hS5 := hS.tr hsg1 (by decide)
  refine bnd1_pvC (sJ7_fill_53178_c24 (v1 := (0 : Int32)) hS5.1 (by omega) (by omega)) (fun sg3 hsg3 => ?_)
  have e6 : pw sg3 = pw sg1 := pw_cg (congrFun (hsg3.fr 3 (by decide)) _)
  have e7 : (sg3 99 63).toInt = (sg1 99 63).toInt := congrArg Int32.toInt (congrFun (hsg3.fr 99 (by decide)) _)
  have e8 : (sg3 99 66).toInt = (sg1 99 66).toInt := congrArg Int32.toInt (congrFun (hsg3.fr 99 (by decide)) _)
  have hS9 := hS5.tr hsg3 (by decide)
  have f10 := rdC99_66 hS9.1.1
  refine ok_ginL (by omega) (by omega) ?_
  refine ok_lt (fun sg6 esg6 => ?_)
  have hS11 := upC66 hS9 (by decide) esg6
  have e12 : pw sg6 = pw sg3 := pw_cg (by rw [esg6]; rfl)
  have e13 : (sg6 99 63).toInt = (sg3 99 63).toInt := by rw [esg6]; rfl
  have e14 : (sg6 99 66).toInt = (sg3 99 66).toInt := by rw [esg6]; rfl
  exact sLX9_agree_77 hS11 (by omega) (by omega) (by omega) (by omega) (by omega) (by omega) (by omega)
set_option maxHeartbeats 4000000 in
theorem sX9_agree {sg : Sg} (hI : IC sg) (xb : pw sg ≤ (sg 99 63).toInt) : Ok (PVC MX9_agree sg) (fX9_agree sg) := by
  have hS : StC MX9_agree sg sg := StC.rf hI
  unfold fX9_agree
  refine ok_ite (fun c1 => ?_) (fun c1 => ?_)
  · replace c1 := i_eq.mp c1
    exact ok_some (mkPVC hS)
  · replace c1 := i_ne.mp c1
    refine ok_lt (fun x2 ex2 => ?_)
    replace ex2 := congrArg Int32.toInt ex2
    refine ok_lt (fun sg3 esg3 => ?_)
    have hS2 := upC4_3 hS (by decide) esg3
    have e3 : pw sg3 = pw sg := pw_cg (by rw [esg3]; rfl)
    have e4 : (sg3 3 1).toInt = (sg 3 1).toInt := by rw [esg3]; rfl
    have e5 : (sg3 99 63).toInt = (sg 99 63).toInt := by rw [esg3]; rfl
    have e6 : (sg3 4 3).toInt = x2.toInt := by rw [esg3]; rfl
    refine bnd2_pxC (sX8_all  hS2.1.1) (fun y4 qy4 zy4 xy4 => ?_)
    replace xy4 : y4.toInt = pw sg3 - 1 := xy4
    refine ok_ite (fun c7 => ?_) (fun c7 => ?_)
    · have f8 := rdC99_66 hS2.1.1
      have f9 := ofn_i (x := (sg3 99 66)) (by omega)
      replace c7 := i_lt.mp c7
      exact sX9_agree_52 hS2 (by omega) (by omega) (by omega) (by omega) (by omega)
    · have f10 := rdC99_66 hS2.1.1
      have f11 := ofn_i (x := (sg3 99 66)) (by omega)
      replace c7 := i_nlt.mp c7
      refine ok_lt (fun x8 ex8 => ?_)
      replace ex8 : x8.toInt = y4.toInt + 1 := by rw [ex8]; exact add_c 1 (by decide) (by omega) (by omega)
      refine ok_gnw (by omega) (by omega) ?_
      refine ok_lt (fun sg10 esg10 => ?_)
      have hS12 := nwC66 (n := x8) hS2 (by decide) (by decide) esg10 (by omega) (by omega)
      have e13 : pw sg10 = pw sg3 := pw_cg (by rw [esg10]; rfl)
      have e14 : (sg10 3 1).toInt = (sg3 3 1).toInt := by rw [esg10]; rfl
      have e15 : (sg10 4 3).toInt = (sg3 4 3).toInt := by rw [esg10]; rfl
      have e16 : (sg10 99 63).toInt = (sg3 99 63).toInt := by rw [esg10]; rfl
      have e17 : (sg10 99 66).toInt = x8.toInt := by rw [esg10]; rfl
      exact sX9_agree_52 hS12 (by omega) (by omega) (by omega) (by omega) (by omega)
set_option maxHeartbeats 4000000 in
theorem sX9_mayStandAbove {v1 : Int32} {v2 : Int32} {sg : Sg} (hI : IC sg) (v1l : 0 ≤ v1.toInt) (v1h : v1.toInt ≤ 11) (v2l : 0 ≤ v2.toInt) (v2h : v2.toInt ≤ 11) : Ok (PUC sg 0 1) (fX9_mayStandAbove v1 v2 sg) := by
  unfold fX9_mayStandAbove
  refine ok_gin (by omega) (by omega) ?_
  have f1 := rdC24 hI.1 (j := v1.toNatClampNeg)
  refine bnd2_pxC (sX11_isIn (v0 := (sg 24 v1.toNatClampNeg)) (v1 := v2) hI (by omega) (by omega) (by omega) (by omega)) (fun y2 qy2 zy2 xy2 => ?_)
  replace xy2 : y2.toInt = 0 ∨ 0 < ((sg 24 v1.toNatClampNeg) >>> (v2 &&& 31)).toInt := xy2
  refine ok_gz (by omega) (by omega) ?_
  exact ok_some (mkPUC (by omega) (by omega))
set_option maxHeartbeats 4000000 in
theorem sX11_sure {v1 : Int32} {v2 : Int32} {sg : Sg} (hI : IC sg) : Ok (PLC MX11_sure sg) (fX11_sure v1 v2 sg) := by
  have hS : StC MX11_sure sg sg := StC.rf hI
  unfold fX11_sure
  refine ok_ite (fun c1 => ?_) (fun c1 => ?_)
  · replace c1 := i_eq.mp c1
    exact ok_some (mkPLC hS)
  · replace c1 := i_ne.mp c1
    refine bnd2_pxC (isc_X2 (v1 := v1) hS.1.1) (fun y2 qy2 zy2 xy2 => ?_)
    replace xy2 : (y2.toInt = 0 ∧ (v1.toInt < 0 ∨ ¬ cnt sg v1.toNatClampNeg)) ∨ (y2.toInt = 1 ∧ cnt sg v1.toNatClampNeg ∧ 0 ≤ v1.toInt ∧ v1.toInt ≤ 11) := xy2
    refine ok_ite (fun c2 => ?_) (fun c2 => ?_)
    · have k3 : (0 : Int32).toInt = 0 := by decide
      replace c2 := i_eq.mp c2
      exact ok_some (mkPLC hS)
    · have k4 : (0 : Int32).toInt = 0 := by decide
      replace c2 := i_ne.mp c2
      refine bnd2_pxC (isc_X2 (v1 := v2) hS.1.1) (fun y6 qy6 zy6 xy6 => ?_)
      replace xy6 : (y6.toInt = 0 ∧ (v2.toInt < 0 ∨ ¬ cnt sg v2.toNatClampNeg)) ∨ (y6.toInt = 1 ∧ cnt sg v2.toNatClampNeg ∧ 0 ≤ v2.toInt ∧ v2.toInt ≤ 11) := xy6
      refine ok_ite (fun c5 => ?_) (fun c5 => ?_)
      · replace c5 := i_eq.mp c5
        exact ok_some (mkPLC hS)
      · replace c5 := i_ne.mp c5
        refine bnd1_pvxC (sX9_solve  hS.1) (fun sg10 hsg10 xsg10 => ?_)
        replace xsg10 : pw sg10 ≤ (sg10 99 63).toInt ∧ pw sg10 ≤ (sg10 99 64).toInt ∧ (sg10 3 1).toInt = (sg10 1 1).toInt := xsg10
        have hS6 := hS.tr hsg10 (by decide)
        refine bnd2_puC (sX9_hasLawful  hS6.1) (fun y13 qy13 zy13 => ?_)
        refine ok_ite (fun c7 => ?_) (fun c7 => ?_)
        · replace c7 := i_eq.mp c7
          exact ok_some (mkPLC hS6)
        · replace c7 := i_ne.mp c7
          refine bnd1_pvC (sX9_agree  hS6.1 (by omega)) (fun sg17 hsg17 => ?_)
          have e8 : pw sg17 = pw sg10 := pw_cg (congrFun (hsg17.fr 3 (by decide)) _)
          have e9 : (sg17 1 1).toInt = (sg10 1 1).toInt := congrArg Int32.toInt (congrFun (hsg17.fr 1 (by decide)) _)
          have e10 : (sg17 3 1).toInt = (sg10 3 1).toInt := congrArg Int32.toInt (congrFun (hsg17.fr 3 (by decide)) _)
          have hS11 := hS6.tr hsg17 (by decide)
          have n1 : cnt sg v1.toNatClampNeg ∧ 0 ≤ v1.toInt ∧ v1.toInt ≤ 11 := by
            rcases xy2 with z | z
            · exact absurd z.1 (by omega)
            · exact z.2
          have n2 : cnt sg v2.toNatClampNeg ∧ 0 ≤ v2.toInt ∧ v2.toInt ≤ 11 := by
            rcases xy6 with z | z
            · exact absurd z.1 (by omega)
            · exact z.2
          have nq := hS11.1.2.2.2.2.1 (by omega)
          have m1 := nq v1.toNatClampNeg ((cnt_cg (congrFun (hS11.fr 1 (by decide)) _) (congrFun (hS11.fr 11 (by decide)) _) (congrFun (hS11.fr 13 (by decide)) _)).mpr n1.1)
          have m2 := nq v2.toNatClampNeg ((cnt_cg (congrFun (hS11.fr 1 (by decide)) _) (congrFun (hS11.fr 11 (by decide)) _) (congrFun (hS11.fr 13 (by decide)) _)).mpr n2.1)
          obtain ⟨-, n1a, n1b⟩ := n1
          obtain ⟨-, n2a, n2b⟩ := n2
          refine ok_gin (by omega) (by omega) ?_
          have f12 := rdC18 hS11.1.1 (j := v1.toNatClampNeg)
          refine ok_lt (fun x21 ex21 => ?_)
          replace ex21 := congrArg Int32.toInt ex21
          refine ok_gin (by omega) (by omega) ?_
          have f13 := rdC18 hS11.1.1 (j := v2.toNatClampNeg)
          refine ok_lt (fun x23 ex23 => ?_)
          replace ex23 := congrArg Int32.toInt ex23
          refine bnd2_puC (sX9_mayStandAbove (v1 := x23) (v2 := x21) hS11.1 (by omega) (by omega) (by omega) (by omega)) (fun y24 qy24 zy24 => ?_)
          refine ok_ite (fun c14 => ?_) (fun c14 => ?_)
          · replace c14 := i_eq.mp c14
            exact ok_some (mkPLC hS11)
          · replace c14 := i_ne.mp c14
            refine bnd2_puC (sX9_mayStandAbove (v1 := x21) (v2 := x23) hS11.1 (by omega) (by omega) (by omega) (by omega)) (fun y28 qy28 zy28 => ?_)
            refine ok_ite (fun c15 => ?_) (fun c15 => ?_)
            · replace c15 := i_eq.mp c15
              exact ok_some (mkPLC hS11)
            · replace c15 := i_ne.mp c15
              exact ok_some (mkPLC hS11)
set_option maxHeartbeats 4000000 in
theorem sX6_addLeads {v1 : Int32} {v2 : Int32} {sg : Sg} (hI : IC sg) (v1l : 0 ≤ v1.toInt) (v1h : v1.toInt ≤ 11) (v2l : 0 ≤ v2.toInt) (v2h : v2.toInt ≤ 4095) : Ok (PIC MX6_addLeads sg 0 1) (fX6_addLeads v1 v2 sg) := by
  have hS : StC MX6_addLeads sg sg := StC.rf hI
  unfold fX6_addLeads
  refine ok_gin (by omega) (by omega) ?_
  have f1 := rdC45 hS.1.1 (j := v1.toNatClampNeg)
  refine ok_lt (fun x2 ex2 => ?_)
  replace ex2 := congrArg Int32.toInt ex2
  refine ok_gin (by omega) (by omega) ?_
  have f2 := or_i (a := (sg 45 v1.toNatClampNeg)) (b := v2) 12 4096 (by decide) (by decide) (by omega) (by omega) (by omega) (by omega)
  refine ok_lt (fun x4 ex4 => ?_)
  replace ex4 := congrArg Int32.toInt ex4
  refine ok_gin (by omega) (by omega) ?_
  refine ok_lt (fun sg6 esg6 => ?_)
  have hS3 := upC45 hS (by decide) esg6 (by omega) (by omega)
  refine ok_gin (by omega) (by omega) ?_
  refine ok_ite (fun c4 => ?_) (fun c4 => ?_)
  · have f5 := rdC45 hS3.1.1 (j := v1.toNatClampNeg)
    replace c4 := i_eq.mp c4
    have k6 : (0 : Int32).toInt = 0 := by decide
    exact ok_some (mkPIC hS3 (by omega) (by omega))
  · have f7 := rdC45 hS3.1.1 (j := v1.toNatClampNeg)
    replace c4 := i_ne.mp c4
    have k8 : (1 : Int32).toInt = 1 := by decide
    exact ok_some (mkPIC hS3 (by omega) (by omega))
set_option maxHeartbeats 4000000 in
theorem sX6_leadOn_37 {s0 : Sg} {r4 : (Int32 × Int32 × Int32 × Sg) → Option (Int32 × Sg)} {v1 : Int32} {v2 : Int32} {v3 : Int32} {sg : Sg} (hS : StC MX6_leadOn s0 sg) (v1l : 0 ≤ v1.toInt) (v1h : v1.toInt ≤ 11) (v2l : 0 ≤ v2.toInt) (v2h : v2.toInt ≤ 4095) (v3l : 0 ≤ v3.toInt) (v3h : v3.toInt ≤ 11) (hr4 : ∀ (v1' : Int32) (v2' : Int32) (v3' : Int32) (sg' : Sg), StC MX6_leadOn s0 sg' → 0 ≤ v1'.toInt → v1'.toInt ≤ 11 → 0 ≤ v2'.toInt → v2'.toInt ≤ 4095 → 0 ≤ v3'.toInt → v3'.toInt ≤ 12 → v3.toInt < v3'.toInt → Ok (PIC MX6_leadOn s0 0 1) (r4 (v1', v2', v3', sg'))) : Ok (PIC MX6_leadOn s0 0 1) (fX6_leadOn_37 r4 v1 v2 v3 sg) := by
  unfold fX6_leadOn_37
  refine ok_lt (fun x1 ex1 => ?_)
  replace ex1 : x1.toInt = v3.toInt + 1 := by rw [ex1]; exact add_c 1 (by decide) (by omega) (by omega)
  exact hr4 v1 v2 x1 sg hS (by omega) (by omega) (by omega) (by omega) (by omega) (by omega) (by omega)
