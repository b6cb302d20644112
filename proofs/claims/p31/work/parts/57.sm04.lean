set_option maxHeartbeats 4000000 in
theorem sX12_isWhole_33 {r33 : (Int32 × Int32 × Int32 × Sg × Lg) → Option (Int32 × Sg × Lg)} {v1 : Int32} {v2 : Int32} {v3 : Int32} {sg : Sg} {lg : Lg} (hI : IM sg lg) (v1l : 0 ≤ v1.toInt) (v1h : v1.toInt ≤ 4095) (v3l : 0 ≤ v3.toInt) (v3h : v3.toInt ≤ 12) (hr33 : ∀ (v1' : Int32) (v2' : Int32) (v3' : Int32), 0 ≤ v1'.toInt → v1'.toInt ≤ 4095 → 0 ≤ v3'.toInt → v3'.toInt ≤ 12 → v3.toInt < v3'.toInt → Ok (PUM sg lg 0 1) (r33 (v1', v2', v3', sg, lg))) : Ok (PUM sg lg 0 1) (fX12_isWhole_33 r33 v1 v2 v3 sg lg) := by
  unfold fX12_isWhole_33
  refine ok_ite (fun c1 => ?_) (fun c1 => ?_)
  · have k2 : (12 : Int32).toInt = 12 := by decide
    replace c1 := i_le.mp c1
    refine ok_ite (fun c3 => ?_) (fun c3 => ?_)
    · have f4 := rdM0_4 hI
      replace c3 := i_eq.mp c3
      refine bnd3_puM (sX12_counting  hI) (fun y3 qy3 zy3 => ?_)
      refine ok_ite (fun c5 => ?_) (fun c5 => ?_)
      · replace c5 := i_eq.mp c5
        have k6 : (1 : Int32).toInt = 1 := by decide
        exact ok_some (mkPUM (by omega) (by omega))
      · replace c5 := i_ne.mp c5
        have k7 : (0 : Int32).toInt = 0 := by decide
        exact ok_some (mkPUM (by omega) (by omega))
    · have f8 := rdM0_4 hI
      replace c3 := i_ne.mp c3
      have k9 : (0 : Int32).toInt = 0 := by decide
      exact ok_some (mkPUM (by omega) (by omega))
  · have k10 : (12 : Int32).toInt = 12 := by decide
    replace c1 := i_nle.mp c1
    have f11 := shr_i (a := v1) (v := (v3 &&& 31)) (by omega)
    have k12 : (1 : Int32).toInt = 1 := by decide
    have f13 := and_l (a := (v1 >>> (v3 &&& 31))) (b := (1 : Int32)) (by omega)
    have f14 := and_r (a := (v1 >>> (v3 &&& 31))) (b := (1 : Int32)) (by omega)
    refine ok_lt (fun x8 ex8 => ?_)
    replace ex8 := congrArg Int32.toInt ex8
    refine ok_lt (fun x9 ex9 => ?_)
    replace ex9 : x9.toInt = v3.toInt + 1 := by rw [ex9]; exact add_c 1 (by decide) (by omega) (by omega)
    exact hr33 v1 x8 x9 (by omega) (by omega) (by omega) (by omega) (by omega)
set_option maxHeartbeats 4000000 in
theorem sLX12_isWhole_33 {v1 : Int32} {v2 : Int32} {v3 : Int32} {sg : Sg} {lg : Lg} (hI : IM sg lg) (v1l : 0 ≤ v1.toInt) (v1h : v1.toInt ≤ 4095) (v3l : 0 ≤ v3.toInt) (v3h : v3.toInt ≤ 12) : Ok (PUM sg lg 0 1) (LX12_isWhole_33 (v1, v2, v3, sg, lg)) := by
  unfold LX12_isWhole_33
  refine ok_loop (I := fun (z : Int32 × Int32 × Int32 × Sg × Lg) => z.2.2.2.1 = sg ∧ z.2.2.2.2 = lg ∧ 0 ≤ z.1.toInt ∧ z.1.toInt ≤ 4095 ∧ 0 ≤ z.2.2.1.toInt ∧ z.2.2.1.toInt ≤ 12) (m := fun (z : Int32 × Int32 × Int32 × Sg × Lg) => (13 - z.2.2.1.toInt).toNat) _ ?_ ?_ _ ?_
  · intro z hz
    obtain ⟨h0, h1, h2, h3, h4, h5⟩ := hz
    show (13 - z.2.2.1.toInt).toNat < 10000
    omega
  · intro rec z hz hrec
    obtain ⟨v1, v2, v3, sg1, lg1⟩ := z
    replace hz : sg1 = sg ∧ lg1 = lg ∧ 0 ≤ v1.toInt ∧ v1.toInt ≤ 4095 ∧ 0 ≤ v3.toInt ∧ v3.toInt ≤ 12 := hz
    obtain ⟨h0, h1, h2, h3, h4, h5⟩ := hz
    subst sg1
    subst lg1
    show Ok (PUM sg lg 0 1) (fX12_isWhole_33 rec v1 v2 v3 sg lg)
    exact sX12_isWhole_33 hI h2 h3 h4 h5 (fun v1' v2' v3' g0 g1 g2 g3 g4 => hrec (v1', v2', v3', sg, lg) ⟨rfl, rfl, g0, g1, g2, g3⟩ (show (13 - v3'.toInt).toNat < (13 - v3.toInt).toNat by omega))
  · exact ⟨rfl, rfl, v1l, v1h, v3l, v3h⟩
set_option maxHeartbeats 4000000 in
theorem sX12_isWhole_4 {r4 : (Int32 × Int32 × Sg × Lg) → Option (Int32 × Sg × Lg)} {v1 : Int32} {v2 : Int32} {sg : Sg} {lg : Lg} (hI : IM sg lg) (v1l : 0 ≤ v1.toInt) (v1h : v1.toInt ≤ 4095) (v2l : 0 ≤ v2.toInt) (v2h : v2.toInt ≤ 12) (hr4 : ∀ (v1' : Int32) (v2' : Int32), 0 ≤ v1'.toInt → v1'.toInt ≤ 4095 → 0 ≤ v2'.toInt → v2'.toInt ≤ 12 → v2.toInt < v2'.toInt → Ok (PUM sg lg 0 1) (r4 (v1', v2', sg, lg))) : Ok (PUM sg lg 0 1) (fX12_isWhole_4 r4 v1 v2 sg lg) := by
  unfold fX12_isWhole_4
  refine ok_ite (fun c1 => ?_) (fun c1 => ?_)
  · have f2 := rdM0_4 hI
    replace c1 := i_le.mp c1
    have k3 : (0 : Int32).toInt = 0 := by decide
    exact sLX12_isWhole_33 hI (by omega) (by omega) (by omega) (by omega)
  · have f4 := rdM0_4 hI
    replace c1 := i_nle.mp c1
    refine ok_gin (by omega) (by omega) ?_
    have f5 := rdM3 hI (j := v2.toNatClampNeg)
    have f6 := shl_i (v := (sg 3 v2.toNatClampNeg)) 11 2048 (by decide) (by decide) (by omega) (by omega)
    have f7 := or_i (a := v1) (b := ((1 : Int32) <<< ((sg 3 v2.toNatClampNeg) &&& 31))) 12 4096 (by decide) (by decide) (by omega) (by omega) (by omega) (by omega)
    refine ok_lt (fun x3 ex3 => ?_)
    replace ex3 := congrArg Int32.toInt ex3
    refine ok_lt (fun x4 ex4 => ?_)
    replace ex4 : x4.toInt = v2.toInt + 1 := by rw [ex4]; exact add_c 1 (by decide) (by omega) (by omega)
    exact hr4 x3 x4 (by omega) (by omega) (by omega) (by omega) (by omega)
set_option maxHeartbeats 4000000 in
theorem sLX12_isWhole_4 {v1 : Int32} {v2 : Int32} {sg : Sg} {lg : Lg} (hI : IM sg lg) (v1l : 0 ≤ v1.toInt) (v1h : v1.toInt ≤ 4095) (v2l : 0 ≤ v2.toInt) (v2h : v2.toInt ≤ 12) : Ok (PUM sg lg 0 1) (LX12_isWhole_4 (v1, v2, sg, lg)) := by
  unfold LX12_isWhole_4
  refine ok_loop (I := fun (z : Int32 × Int32 × Sg × Lg) => z.2.2.1 = sg ∧ z.2.2.2 = lg ∧ 0 ≤ z.1.toInt ∧ z.1.toInt ≤ 4095 ∧ 0 ≤ z.2.1.toInt ∧ z.2.1.toInt ≤ 12) (m := fun (z : Int32 × Int32 × Sg × Lg) => (13 - z.2.1.toInt).toNat) _ ?_ ?_ _ ?_
  · intro z hz
    obtain ⟨h0, h1, h2, h3, h4, h5⟩ := hz
    show (13 - z.2.1.toInt).toNat < 10000
    omega
  · intro rec z hz hrec
    obtain ⟨v1, v2, sg1, lg1⟩ := z
    replace hz : sg1 = sg ∧ lg1 = lg ∧ 0 ≤ v1.toInt ∧ v1.toInt ≤ 4095 ∧ 0 ≤ v2.toInt ∧ v2.toInt ≤ 12 := hz
    obtain ⟨h0, h1, h2, h3, h4, h5⟩ := hz
    subst sg1
    subst lg1
    show Ok (PUM sg lg 0 1) (fX12_isWhole_4 rec v1 v2 sg lg)
    exact sX12_isWhole_4 hI h2 h3 h4 h5 (fun v1' v2' g0 g1 g2 g3 g4 => hrec (v1', v2', sg, lg) ⟨rfl, rfl, g0, g1, g2, g3⟩ (show (13 - v2'.toInt).toNat < (13 - v2.toInt).toNat by omega))
  · exact ⟨rfl, rfl, v1l, v1h, v2l, v2h⟩
set_option maxHeartbeats 4000000 in
theorem sX12_isWhole {sg : Sg} {lg : Lg} (hI : IM sg lg) : Ok (PUM sg lg 0 1) (fX12_isWhole sg lg) := by
  unfold fX12_isWhole
  have k1 : (0 : Int32).toInt = 0 := by decide
  exact sLX12_isWhole_4 hI (by omega) (by omega) (by omega) (by omega)
set_option maxHeartbeats 4000000 in
theorem sX12_number_105 {s0 : Sg} {l0 : Lg} {r28 : (Int32 × Int32 × Int64 × Int32 × Sg × Lg) → Option (Int64 × Sg × Lg)} {r60 : (Int32 × Int32 × Int64 × Int32 × Int32 × Sg × Lg) → Option (Int64 × Sg × Lg)} {v1 : Int32} {v2 : Int32} {v5 : Int32} {v6 : Int32} {w0 : Int64} {w1 : Int64} {sg : Sg} {lg : Lg} (hS : StM MX12_number s0 l0 sg lg) (v1l : 0 ≤ v1.toInt) (v1h : v1.toInt ≤ 4095) (v2l : 0 ≤ v2.toInt) (v2h : v2.toInt ≤ 12) (v5l : 0 ≤ v5.toInt) (v5h : v5.toInt ≤ 11) (v6l : 0 ≤ v6.toInt) (v6h : v6.toInt ≤ 10) (hr28 : ∀ (v1' : Int32) (v2' : Int32) (v3' : Int64) (v5' : Int32) (sg' : Sg) (lg' : Lg), StM MX12_number s0 l0 sg' lg' → 0 ≤ v1'.toInt → v1'.toInt ≤ 4095 → 0 ≤ v2'.toInt → v2'.toInt ≤ 12 → 0 ≤ v5'.toInt → v5'.toInt ≤ 12 → v5.toInt < v5'.toInt → Ok (PLM MX12_number s0 l0) (r28 (v1', v2', v3', v5', sg', lg'))) (hr60 : ∀ (v1' : Int32) (v2' : Int32) (v3' : Int64) (v5' : Int32) (v6' : Int32) (sg' : Sg) (lg' : Lg), StM MX12_number s0 l0 sg' lg' → 0 ≤ v1'.toInt → v1'.toInt ≤ 4095 → 0 ≤ v2'.toInt → v2'.toInt ≤ 12 → 0 ≤ v5'.toInt → v5'.toInt ≤ 11 → 0 ≤ v6'.toInt → v6'.toInt ≤ 11 → (∀ (v1'' : Int32) (v2'' : Int32) (v3'' : Int64) (v5'' : Int32) (sg'' : Sg) (lg'' : Lg), StM MX12_number s0 l0 sg'' lg'' → 0 ≤ v1''.toInt → v1''.toInt ≤ 4095 → 0 ≤ v2''.toInt → v2''.toInt ≤ 12 → 0 ≤ v5''.toInt → v5''.toInt ≤ 12 → v5'.toInt < v5''.toInt → Ok (PLM MX12_number s0 l0) (r28 (v1'', v2'', v3'', v5'', sg'', lg''))) → v6.toInt < v6'.toInt → Ok (PLM MX12_number s0 l0) (r60 (v1', v2', v3', v5', v6', sg', lg'))) : Ok (PLM MX12_number s0 l0) (fX12_number_105 r28 r60 v1 v2 v5 v6 w0 w1 sg lg) := by
  unfold fX12_number_105
  refine ok_lt (fun x1 ex1 => ?_)
  refine ok_lt (fun x2 ex2 => ?_)
  replace ex2 : x2.toInt = v6.toInt + 1 := by rw [ex2]; exact add_c 1 (by decide) (by omega) (by omega)
  exact hr60 v1 v2 x1 v5 x2 sg lg hS (by omega) (by omega) (by omega) (by omega) (by omega) (by omega) (by omega) (by omega) hr28 (by omega)
set_option maxHeartbeats 4000000 in
theorem sX12_number_60 {s0 : Sg} {l0 : Lg} {r28 : (Int32 × Int32 × Int64 × Int32 × Sg × Lg) → Option (Int64 × Sg × Lg)} {r60 : (Int32 × Int32 × Int64 × Int32 × Int32 × Sg × Lg) → Option (Int64 × Sg × Lg)} {v1 : Int32} {v2 : Int32} {v3 : Int64} {v5 : Int32} {v6 : Int32} {sg : Sg} {lg : Lg} (hS : StM MX12_number s0 l0 sg lg) (v1l : 0 ≤ v1.toInt) (v1h : v1.toInt ≤ 4095) (v2l : 0 ≤ v2.toInt) (v2h : v2.toInt ≤ 12) (v5l : 0 ≤ v5.toInt) (v5h : v5.toInt ≤ 11) (v6l : 0 ≤ v6.toInt) (v6h : v6.toInt ≤ 11) (hr28 : ∀ (v1' : Int32) (v2' : Int32) (v3' : Int64) (v5' : Int32) (sg' : Sg) (lg' : Lg), StM MX12_number s0 l0 sg' lg' → 0 ≤ v1'.toInt → v1'.toInt ≤ 4095 → 0 ≤ v2'.toInt → v2'.toInt ≤ 12 → 0 ≤ v5'.toInt → v5'.toInt ≤ 12 → v5.toInt < v5'.toInt → Ok (PLM MX12_number s0 l0) (r28 (v1', v2', v3', v5', sg', lg'))) (hr60 : ∀ (v1' : Int32) (v2' : Int32) (v3' : Int64) (v5' : Int32) (v6' : Int32) (sg' : Sg) (lg' : Lg), StM MX12_number s0 l0 sg' lg' → 0 ≤ v1'.toInt → v1'.toInt ≤ 4095 → 0 ≤ v2'.toInt → v2'.toInt ≤ 12 → 0 ≤ v5'.toInt → v5'.toInt ≤ 11 → 0 ≤ v6'.toInt → v6'.toInt ≤ 11 → (∀ (v1'' : Int32) (v2'' : Int32) (v3'' : Int64) (v5'' : Int32) (sg'' : Sg) (lg'' : Lg), StM MX12_number s0 l0 sg'' lg'' → 0 ≤ v1''.toInt → v1''.toInt ≤ 4095 → 0 ≤ v2''.toInt → v2''.toInt ≤ 12 → 0 ≤ v5''.toInt → v5''.toInt ≤ 12 → v5'.toInt < v5''.toInt → Ok (PLM MX12_number s0 l0) (r28 (v1'', v2'', v3'', v5'', sg'', lg''))) → v6.toInt < v6'.toInt → Ok (PLM MX12_number s0 l0) (r60 (v1', v2', v3', v5', v6', sg', lg'))) : Ok (PLM MX12_number s0 l0) (fX12_number_60 r28 r60 v1 v2 v3 v5 v6 sg lg) := by
  unfold fX12_number_60
  refine ok_gin (by omega) (by omega) ?_
  refine ok_ite (fun c1 => ?_) (fun c1 => ?_)
  · have f2 := rdM3 hS.1 (j := v5.toNatClampNeg)
    replace c1 := i_le.mp c1
    refine ok_gin (by omega) (by omega) ?_
    have f3 := shl_i (v := (sg 3 v5.toNatClampNeg)) 11 2048 (by decide) (by decide) (by omega) (by omega)
    have f4 := or_i (a := v1) (b := ((1 : Int32) <<< ((sg 3 v5.toNatClampNeg) &&& 31))) 12 4096 (by decide) (by decide) (by omega) (by omega) (by omega) (by omega)
    refine ok_lt (fun x4 ex4 => ?_)
    replace ex4 := congrArg Int32.toInt ex4
    refine ok_gin (by omega) (by omega) ?_
    refine ok_lt (fun x6 ex6 => ?_)
    replace ex6 := congrArg Int32.toInt ex6
    refine ok_lt (fun x7 ex7 => ?_)
    replace ex7 : x7.toInt = v5.toInt + 1 := by rw [ex7]; exact add_c 1 (by decide) (by omega) (by omega)
    exact hr28 x4 x6 v3 x7 sg lg hS (by omega) (by omega) (by omega) (by omega) (by omega) (by omega) (by omega)
  · have f5 := rdM3 hS.1 (j := v5.toNatClampNeg)
    replace c1 := i_nle.mp c1
    refine bnd3_puM (sX12_isBest (v1 := v6) (v2 := v1) (v3 := v2) hS.1 (by omega) (by omega) (by omega) (by omega) (by omega) (by omega)) (fun y8 qy8 zy8 => ?_)
    refine ok_ite (fun c6 => ?_) (fun c6 => ?_)
    · have k7 : (0 : Int32).toInt = 0 := by decide
      replace c6 := i_eq.mp c6
      exact sX12_number_105 hS (by omega) (by omega) (by omega) (by omega) (by omega) (by omega) (by omega) (by omega) hr28 hr60
    · have k8 : (0 : Int32).toInt = 0 := by decide
      replace c6 := i_ne.mp c6
      have k9 : (13 : Int32).toInt = 13 := by decide
      have f10 := shl_i (v := v6) 10 1024 (by decide) (by decide) (by omega) (by omega)
      have f11 := or_i (a := v1) (b := ((1 : Int32) <<< (v6 &&& 31))) 12 4096 (by decide) (by decide) (by omega) (by omega) (by omega) (by omega)
      have f12 := mul_l (a := (13 : Int32)) (b := (v1 ||| ((1 : Int32) <<< (v6 &&& 31)))) 13 (by decide) (by omega) (by omega)
      have f13 := add_i (a := ((13 : Int32) * (v1 ||| ((1 : Int32) <<< (v6 &&& 31))))) (b := v6) (by omega) (by omega)
      refine ok_lt (fun x13 ex13 => ?_)
      replace ex13 := congrArg Int32.toInt ex13
      refine ok_gin (by omega) (by omega) ?_
      exact sX12_number_105 hS (by omega) (by omega) (by omega) (by omega) (by omega) (by omega) (by omega) (by omega) hr28 hr60
set_option maxHeartbeats 4000000 in
theorem sLX12_number_60 {s0 : Sg} {l0 : Lg} {r28 : (Int32 × Int32 × Int64 × Int32 × Sg × Lg) → Option (Int64 × Sg × Lg)} {v1 : Int32} {v2 : Int32} {v3 : Int64} {v5 : Int32} {v6 : Int32} {sg : Sg} {lg : Lg} (hS : StM MX12_number s0 l0 sg lg) (v1l : 0 ≤ v1.toInt) (v1h : v1.toInt ≤ 4095) (v2l : 0 ≤ v2.toInt) (v2h : v2.toInt ≤ 12) (v5l : 0 ≤ v5.toInt) (v5h : v5.toInt ≤ 11) (v6l : 0 ≤ v6.toInt) (v6h : v6.toInt ≤ 11) (hr28 : ∀ (v1' : Int32) (v2' : Int32) (v3' : Int64) (v5' : Int32) (sg' : Sg) (lg' : Lg), StM MX12_number s0 l0 sg' lg' → 0 ≤ v1'.toInt → v1'.toInt ≤ 4095 → 0 ≤ v2'.toInt → v2'.toInt ≤ 12 → 0 ≤ v5'.toInt → v5'.toInt ≤ 12 → v5.toInt < v5'.toInt → Ok (PLM MX12_number s0 l0) (r28 (v1', v2', v3', v5', sg', lg'))) : Ok (PLM MX12_number s0 l0) (LX12_number_60 r28 (v1, v2, v3, v5, v6, sg, lg)) := by
  unfold LX12_number_60
  refine ok_loop (I := fun (z : Int32 × Int32 × Int64 × Int32 × Int32 × Sg × Lg) => StM MX12_number s0 l0 z.2.2.2.2.2.1 z.2.2.2.2.2.2 ∧ 0 ≤ z.1.toInt ∧ z.1.toInt ≤ 4095 ∧ 0 ≤ z.2.1.toInt ∧ z.2.1.toInt ≤ 12 ∧ 0 ≤ z.2.2.2.1.toInt ∧ z.2.2.2.1.toInt ≤ 11 ∧ 0 ≤ z.2.2.2.2.1.toInt ∧ z.2.2.2.2.1.toInt ≤ 11 ∧ (∀ (v1' : Int32) (v2' : Int32) (v3' : Int64) (v5' : Int32) (sg' : Sg) (lg' : Lg), StM MX12_number s0 l0 sg' lg' → 0 ≤ v1'.toInt → v1'.toInt ≤ 4095 → 0 ≤ v2'.toInt → v2'.toInt ≤ 12 → 0 ≤ v5'.toInt → v5'.toInt ≤ 12 → z.2.2.2.1.toInt < v5'.toInt → Ok (PLM MX12_number s0 l0) (r28 (v1', v2', v3', v5', sg', lg')))) (m := fun (z : Int32 × Int32 × Int64 × Int32 × Int32 × Sg × Lg) => (12 - z.2.2.2.2.1.toInt).toNat) _ ?_ ?_ _ ?_
  · intro z hz
    obtain ⟨h0, h1, h2, h3, h4, h5, h6, h7, h8, h9⟩ := hz
    show (12 - z.2.2.2.2.1.toInt).toNat < 10000
    omega
  · intro rec z hz hrec
    obtain ⟨v1, v2, v3, v5, v6, sg, lg⟩ := z
    replace hz : StM MX12_number s0 l0 sg lg ∧ 0 ≤ v1.toInt ∧ v1.toInt ≤ 4095 ∧ 0 ≤ v2.toInt ∧ v2.toInt ≤ 12 ∧ 0 ≤ v5.toInt ∧ v5.toInt ≤ 11 ∧ 0 ≤ v6.toInt ∧ v6.toInt ≤ 11 ∧ (∀ (v1' : Int32) (v2' : Int32) (v3' : Int64) (v5' : Int32) (sg' : Sg) (lg' : Lg), StM MX12_number s0 l0 sg' lg' → 0 ≤ v1'.toInt → v1'.toInt ≤ 4095 → 0 ≤ v2'.toInt → v2'.toInt ≤ 12 → 0 ≤ v5'.toInt → v5'.toInt ≤ 12 → v5.toInt < v5'.toInt → Ok (PLM MX12_number s0 l0) (r28 (v1', v2', v3', v5', sg', lg'))) := hz
    obtain ⟨h0, h1, h2, h3, h4, h5, h6, h7, h8, h9⟩ := hz
    show Ok (PLM MX12_number s0 l0) (fX12_number_60 r28 rec v1 v2 v3 v5 v6 sg lg)
    exact sX12_number_60 h0 h1 h2 h3 h4 h5 h6 h7 h8 h9 (fun v1' v2' v3' v5' v6' sg' lg' g0 g1 g2 g3 g4 g5 g6 g7 g8 g9 g10 => hrec (v1', v2', v3', v5', v6', sg', lg') ⟨g0, g1, g2, g3, g4, g5, g6, g7, g8, g9⟩ (show (12 - v6'.toInt).toNat < (12 - v6.toInt).toNat by omega))
  · exact ⟨hS, v1l, v1h, v2l, v2h, v5l, v5h, v6l, v6h, hr28⟩
set_option maxHeartbeats 4000000 in
theorem sX12_number_28 {s0 : Sg} {l0 : Lg} {r28 : (Int32 × Int32 × Int64 × Int32 × Sg × Lg) → Option (Int64 × Sg × Lg)} {v1 : Int32} {v2 : Int32} {v3 : Int64} {v5 : Int32} {sg : Sg} {lg : Lg} (hS : StM MX12_number s0 l0 sg lg) (v1l : 0 ≤ v1.toInt) (v1h : v1.toInt ≤ 4095) (v2l : 0 ≤ v2.toInt) (v2h : v2.toInt ≤ 12) (v5l : 0 ≤ v5.toInt) (v5h : v5.toInt ≤ 12) (hr28 : ∀ (v1' : Int32) (v2' : Int32) (v3' : Int64) (v5' : Int32) (sg' : Sg) (lg' : Lg), StM MX12_number s0 l0 sg' lg' → 0 ≤ v1'.toInt → v1'.toInt ≤ 4095 → 0 ≤ v2'.toInt → v2'.toInt ≤ 12 → 0 ≤ v5'.toInt → v5'.toInt ≤ 12 → v5.toInt < v5'.toInt → Ok (PLM MX12_number s0 l0) (r28 (v1', v2', v3', v5', sg', lg'))) : Ok (PLM MX12_number s0 l0) (fX12_number_28 r28 v1 v2 v3 v5 sg lg) := by
  unfold fX12_number_28
  refine ok_ite (fun c1 => ?_) (fun c1 => ?_)
  · have f2 := rdM0_4 hS.1
    replace c1 := i_le.mp c1
    refine bnd3_puM (sX12_begun  hS.1) (fun y2 qy2 zy2 => ?_)
    refine ok_gin (by omega) (by omega) ?_
    refine ok_ite (fun c3 => ?_) (fun c3 => ?_)
    · have k4 : (1000000000000000 : Int64).toInt = 1000000000000000 := by decide
      replace c3 := j_lt.mp c3
      exact ok_some (mkPLM hS)
    · have k5 : (1000000000000000 : Int64).toInt = 1000000000000000 := by decide
      replace c3 := j_nlt.mp c3
      exact ok_some (mkPLM hS)
  · have f6 := rdM0_4 hS.1
    replace c1 := i_nle.mp c1
    refine ok_gin (by omega) (by omega) ?_
    have f7 := rdM3 hS.1 (j := v5.toNatClampNeg)
    refine bnd3_puM (sX12_isBest (v1 := (sg 3 v5.toNatClampNeg)) (v2 := v1) (v3 := v2) hS.1 (by omega) (by omega) (by omega) (by omega) (by omega) (by omega)) (fun y9 qy9 zy9 => ?_)
    refine ok_ite (fun c8 => ?_) (fun c8 => ?_)
    · have k9 : (0 : Int32).toInt = 0 := by decide
      replace c8 := i_eq.mp c8
      exact ok_some (mkPLM hS)
    · have k10 : (0 : Int32).toInt = 0 := by decide
      replace c8 := i_ne.mp c8
      exact sLX12_number_60 hS (by omega) (by omega) (by omega) (by omega) (by omega) (by omega) (by omega) (by omega) hr28
set_option maxHeartbeats 4000000 in
theorem sLX12_number_28 {s0 : Sg} {l0 : Lg} {v1 : Int32} {v2 : Int32} {v3 : Int64} {v5 : Int32} {sg : Sg} {lg : Lg} (hS : StM MX12_number s0 l0 sg lg) (v1l : 0 ≤ v1.toInt) (v1h : v1.toInt ≤ 4095) (v2l : 0 ≤ v2.toInt) (v2h : v2.toInt ≤ 12) (v5l : 0 ≤ v5.toInt) (v5h : v5.toInt ≤ 12) : Ok (PLM MX12_number s0 l0) (LX12_number_28 (v1, v2, v3, v5, sg, lg)) := by
  unfold LX12_number_28
  refine ok_loop (I := fun (z : Int32 × Int32 × Int64 × Int32 × Sg × Lg) => StM MX12_number s0 l0 z.2.2.2.2.1 z.2.2.2.2.2 ∧ 0 ≤ z.1.toInt ∧ z.1.toInt ≤ 4095 ∧ 0 ≤ z.2.1.toInt ∧ z.2.1.toInt ≤ 12 ∧ 0 ≤ z.2.2.2.1.toInt ∧ z.2.2.2.1.toInt ≤ 12) (m := fun (z : Int32 × Int32 × Int64 × Int32 × Sg × Lg) => (13 - z.2.2.2.1.toInt).toNat) _ ?_ ?_ _ ?_
  · intro z hz
    obtain ⟨h0, h1, h2, h3, h4, h5, h6⟩ := hz
    show (13 - z.2.2.2.1.toInt).toNat < 10000
    omega
  · intro rec z hz hrec
    obtain ⟨v1, v2, v3, v5, sg, lg⟩ := z
    replace hz : StM MX12_number s0 l0 sg lg ∧ 0 ≤ v1.toInt ∧ v1.toInt ≤ 4095 ∧ 0 ≤ v2.toInt ∧ v2.toInt ≤ 12 ∧ 0 ≤ v5.toInt ∧ v5.toInt ≤ 12 := hz
    obtain ⟨h0, h1, h2, h3, h4, h5, h6⟩ := hz
    show Ok (PLM MX12_number s0 l0) (fX12_number_28 rec v1 v2 v3 v5 sg lg)
    exact sX12_number_28 h0 h1 h2 h3 h4 h5 h6 (fun v1' v2' v3' v5' sg' lg' g0 g1 g2 g3 g4 g5 g6 g7 => hrec (v1', v2', v3', v5', sg', lg') ⟨g0, g1, g2, g3, g4, g5, g6⟩ (show (13 - v5'.toInt).toNat < (13 - v5.toInt).toNat by omega))
  · exact ⟨hS, v1l, v1h, v2l, v2h, v5l, v5h⟩
set_option maxHeartbeats 4000000 in
theorem sX12_number {sg : Sg} {lg : Lg} (hI : IM sg lg) : Ok (PLM MX12_number sg lg) (fX12_number sg lg) := by
  have hS : StM MX12_number sg lg sg lg := StM.rf hI
  unfold fX12_number
  refine bnd3_puM (sX12_isWhole  hS.1) (fun y1 qy1 zy1 => ?_)
  refine ok_ite (fun c1 => ?_) (fun c1 => ?_)
  · have k2 : (0 : Int32).toInt = 0 := by decide
    replace c1 := i_eq.mp c1
    exact ok_some (mkPLM hS)
  · have k3 : (0 : Int32).toInt = 0 := by decide
    replace c1 := i_ne.mp c1
    have k4 : (1 : Int32).toInt = 1 := by decide
    have k5 : (-1 : Int32).toInt = -1 := by decide
    refine bnd2_pvM (sX12_fill (v1 := (1 : Int32)) (v2 := (-1 : Int32)) (v3 := (-1 : Int32)) hS.1 (by omega) (by omega) (by omega) (by omega) (by omega) (by omega)) (fun sg6 lg7 hsg6 => ?_)
    have hS6 := hS.tr hsg6 (by decide)
    have k7 : (12 : Int32).toInt = 12 := by decide
    exact sLX12_number_28 hS6 (by omega) (by omega) (by omega) (by omega) (by omega) (by omega)
set_option maxHeartbeats 4000000 in
theorem sX12_sure_111 {s0 : Sg} {l0 : Lg} {v5 : Int64} {w0 : Int64} {sg : Sg} {lg : Lg} (hS : StM MX12_sure s0 l0 sg lg) : Ok (PLM MX12_sure s0 l0) (fX12_sure_111 v5 w0 sg lg) := by
  unfold fX12_sure_111
  refine ok_ite (fun c1 => ?_) (fun c1 => ?_)
  · replace c1 := j_eq.mp c1
    exact ok_some (mkPLM hS)
  · replace c1 := j_ne.mp c1
    refine ok_ite (fun c2 => ?_) (fun c2 => ?_)
    · have k3 : (0 : Int64).toInt = 0 := by decide
      replace c2 := j_eq.mp c2
      exact ok_some (mkPLM hS)
    · have k4 : (0 : Int64).toInt = 0 := by decide
      replace c2 := j_ne.mp c2
      exact ok_some (mkPLM hS)
set_option maxHeartbeats 4000000 in
theorem sX12_sure {v1 : Int32} {v2 : Int32} {sg : Sg} {lg : Lg} (hI : IM sg lg) : Ok (PLM MX12_sure sg lg) (fX12_sure v1 v2 sg lg) := by
  have hS : StM MX12_sure sg lg sg lg := StM.rf hI
  unfold fX12_sure
  refine bnd3_pxM (sX12_isHen (v1 := v1) hS.1) (fun y1 qy1 zy1 xy1 => ?_)
  replace xy1 : y1.toInt = 0 ∨ (0 ≤ v1.toInt ∧ v1.toInt ≤ 11) := xy1
  refine ok_ite (fun c1 => ?_) (fun c1 => ?_)
  · have k2 : (0 : Int32).toInt = 0 := by decide
    replace c1 := i_eq.mp c1
    exact ok_some (mkPLM hS)
  · have k3 : (0 : Int32).toInt = 0 := by decide
    replace c1 := i_ne.mp c1
    refine bnd3_pxM (sX12_isHen (v1 := v2) hS.1) (fun y6 qy6 zy6 xy6 => ?_)
    replace xy6 : y6.toInt = 0 ∨ (0 ≤ v2.toInt ∧ v2.toInt ≤ 11) := xy6
    refine ok_ite (fun c4 => ?_) (fun c4 => ?_)
    · replace c4 := i_eq.mp c4
      exact ok_some (mkPLM hS)
    · replace c4 := i_ne.mp c4
      refine ok_ite (fun c5 => ?_) (fun c5 => ?_)
      · replace c5 := i_eq.mp c5
        exact ok_some (mkPLM hS)
      · replace c5 := i_ne.mp c5
        refine bnd3_pxM (sX12_counts (v1 := v1) hS.1) (fun y12 qy12 zy12 xy12 => ?_)
        replace xy12 : y12.toInt = 0 ∨ (0 ≤ v1.toInt ∧ v1.toInt ≤ 11) := xy12
        refine ok_ite (fun c6 => ?_) (fun c6 => ?_)
        · replace c6 := i_eq.mp c6
          exact ok_some (mkPLM hS)
        · replace c6 := i_ne.mp c6
          refine bnd3_pxM (sX12_counts (v1 := v2) hS.1) (fun y17 qy17 zy17 xy17 => ?_)
          replace xy17 : y17.toInt = 0 ∨ (0 ≤ v2.toInt ∧ v2.toInt ≤ 11) := xy17
          refine ok_ite (fun c7 => ?_) (fun c7 => ?_)
          · replace c7 := i_eq.mp c7
            exact ok_some (mkPLM hS)
          · replace c7 := i_ne.mp c7
            have k8 : (1 : Int32).toInt = 1 := by decide
            have k9 : (-1 : Int32).toInt = -1 := by decide
            refine bnd2_pvM (sX12_fill (v1 := (1 : Int32)) (v2 := (-1 : Int32)) (v3 := (-1 : Int32)) hS.1 (by omega) (by omega) (by omega) (by omega) (by omega) (by omega)) (fun sg22 lg23 hsg22 => ?_)
            have hS10 := hS.tr hsg22 (by decide)
            refine bnd3_puM (sX12_begun  hS10.1) (fun y25 qy25 zy25 => ?_)
            refine ok_gin (by omega) (by omega) ?_
            refine ok_lt (fun x30 ex30 => ?_)
            refine bnd3_puM (sX12_begun  hS10.1) (fun y31 qy31 zy31 => ?_)
            refine ok_gin (by omega) (by omega) ?_
            refine ok_lt (fun x36 ex36 => ?_)
            refine ok_ite (fun c11 => ?_) (fun c11 => ?_)
            · have k12 : (1000000000000000 : Int64).toInt = 1000000000000000 := by decide
              replace c11 := j_lt.mp c11
              refine bnd2_pvM (sX12_fill (v1 := (1 : Int32)) (v2 := v1) (v3 := v2) hS10.1 (by omega) (by omega) (by omega) (by omega) (by omega) (by omega)) (fun sg38 lg39 hsg38 => ?_)
              have hS13 := hS10.tr hsg38 (by decide)
              refine bnd3_puM (sX12_begun  hS13.1) (fun y41 qy41 zy41 => ?_)
              refine ok_gin (by omega) (by omega) ?_
              refine ok_ite (fun c14 => ?_) (fun c14 => ?_)
              · replace c14 := j_eq.mp c14
                refine bnd3_puM (sX12_begun  hS13.1) (fun y47 qy47 zy47 => ?_)
                refine ok_gin (by omega) (by omega) ?_
                exact sX12_sure_111 hS13
              · replace c14 := j_ne.mp c14
                exact sX12_sure_111 hS13
            · have k15 : (1000000000000000 : Int64).toInt = 1000000000000000 := by decide
              replace c11 := j_nlt.mp c11
              exact ok_some (mkPLM hS10)
set_option maxHeartbeats 4000000 in
theorem sX12_findBlocks_110 {s0 : Sg} {l0 : Lg} {r23 : (Int32 × Sg × Lg) → Option (Sg × Lg)} {r31 : (Int32 × Int32 × Sg × Lg) → Option (Sg × Lg)} {v1 : Int32} {v2 : Int32} {sg : Sg} {lg : Lg} (hS : StM MX12_findBlocks s0 l0 sg lg) (v1l : 0 ≤ v1.toInt) (v1h : v1.toInt ≤ 11) (v2l : 0 ≤ v2.toInt) (v2h : v2.toInt ≤ 11) (hr23 : ∀ (v1' : Int32) (sg' : Sg) (lg' : Lg), StM MX12_findBlocks s0 l0 sg' lg' → 0 ≤ v1'.toInt → v1'.toInt ≤ 12 → v1.toInt < v1'.toInt → Ok (PVM MX12_findBlocks s0 l0) (r23 (v1', sg', lg'))) (hr31 : ∀ (v1' : Int32) (v2' : Int32) (sg' : Sg) (lg' : Lg), StM MX12_findBlocks s0 l0 sg' lg' → 0 ≤ v1'.toInt → v1'.toInt ≤ 11 → 0 ≤ v2'.toInt → v2'.toInt ≤ 12 → (∀ (v1'' : Int32) (sg'' : Sg) (lg'' : Lg), StM MX12_findBlocks s0 l0 sg'' lg'' → 0 ≤ v1''.toInt → v1''.toInt ≤ 12 → v1'.toInt < v1''.toInt → Ok (PVM MX12_findBlocks s0 l0) (r23 (v1'', sg'', lg''))) → v2.toInt < v2'.toInt → Ok (PVM MX12_findBlocks s0 l0) (r31 (v1', v2', sg', lg'))) : Ok (PVM MX12_findBlocks s0 l0) (fX12_findBlocks_110 r23 r31 v1 v2 sg lg) := by
  unfold fX12_findBlocks_110
  refine ok_lt (fun x1 ex1 => ?_)
  replace ex1 : x1.toInt = v2.toInt + 1 := by rw [ex1]; exact add_c 1 (by decide) (by omega) (by omega)
  exact hr31 v1 x1 sg lg hS (by omega) (by omega) (by omega) (by omega) hr23 (by omega)
set_option maxHeartbeats 4000000 in
theorem sX12_findBlocks_92 {s0 : Sg} {l0 : Lg} {r23 : (Int32 × Sg × Lg) → Option (Sg × Lg)} {r31 : (Int32 × Int32 × Sg × Lg) → Option (Sg × Lg)} {v1 : Int32} {v2 : Int32} {v3 : Int32} {w0 : Int32} {sg : Sg} {lg : Lg} (hS : StM MX12_findBlocks s0 l0 sg lg) (v1l : 0 ≤ v1.toInt) (v1h : v1.toInt ≤ 11) (v2l : 0 ≤ v2.toInt) (v2h : v2.toInt ≤ 11) (v3l : 0 ≤ v3.toInt) (v3h : v3.toInt ≤ 11) (w0l : 0 ≤ w0.toInt) (w0h : w0.toInt ≤ 11) (hr23 : ∀ (v1' : Int32) (sg' : Sg) (lg' : Lg), StM MX12_findBlocks s0 l0 sg' lg' → 0 ≤ v1'.toInt → v1'.toInt ≤ 12 → v1.toInt < v1'.toInt → Ok (PVM MX12_findBlocks s0 l0) (r23 (v1', sg', lg'))) (hr31 : ∀ (v1' : Int32) (v2' : Int32) (sg' : Sg) (lg' : Lg), StM MX12_findBlocks s0 l0 sg' lg' → 0 ≤ v1'.toInt → v1'.toInt ≤ 11 → 0 ≤ v2'.toInt → v2'.toInt ≤ 12 → (∀ (v1'' : Int32) (sg'' : Sg) (lg'' : Lg), StM MX12_findBlocks s0 l0 sg'' lg'' → 0 ≤ v1''.toInt → v1''.toInt ≤ 12 → v1'.toInt < v1''.toInt → Ok (PVM MX12_findBlocks s0 l0) (r23 (v1'', sg'', lg''))) → v2.toInt < v2'.toInt → Ok (PVM MX12_findBlocks s0 l0) (r31 (v1', v2', sg', lg'))) : Ok (PVM MX12_findBlocks s0 l0) (fX12_findBlocks_92 r23 r31 v1 v2 v3 w0 sg lg) := by
  unfold fX12_findBlocks_92
  refine ok_gin (by omega) (by omega) ?_
  refine ok_lt (fun sg2 esg2 => ?_)
  have hS1 := upM7 hS (by decide) esg2 (by omega) (by omega)
  refine ok_gin (by omega) (by omega) ?_
  refine ok_lt (fun sg4 esg4 => ?_)
  have hS2 := upM7 hS1 (by decide) esg4 (by omega) (by omega)
  exact sX12_findBlocks_110 hS2 (by omega) (by omega) (by omega) (by omega) hr23 hr31
set_option maxHeartbeats 4000000 in
theorem sX12_findBlocks_57 {s0 : Sg} {l0 : Lg} {r23 : (Int32 × Sg × Lg) → Option (Sg × Lg)} {r31 : (Int32 × Int32 × Sg × Lg) → Option (Sg × Lg)} {v1 : Int32} {v2 : Int32} {w0 : Int32} {sg : Sg} {lg : Lg} (hS : StM MX12_findBlocks s0 l0 sg lg) (v1l : 0 ≤ v1.toInt) (v1h : v1.toInt ≤ 11) (v2l : 0 ≤ v2.toInt) (v2h : v2.toInt ≤ 11) (w0l : (-1) ≤ w0.toInt) (w0h : w0.toInt ≤ 11) (hr23 : ∀ (v1' : Int32) (sg' : Sg) (lg' : Lg), StM MX12_findBlocks s0 l0 sg' lg' → 0 ≤ v1'.toInt → v1'.toInt ≤ 12 → v1.toInt < v1'.toInt → Ok (PVM MX12_findBlocks s0 l0) (r23 (v1', sg', lg'))) (hr31 : ∀ (v1' : Int32) (v2' : Int32) (sg' : Sg) (lg' : Lg), StM MX12_findBlocks s0 l0 sg' lg' → 0 ≤ v1'.toInt → v1'.toInt ≤ 11 → 0 ≤ v2'.toInt → v2'.toInt ≤ 12 → (∀ (v1'' : Int32) (sg'' : Sg) (lg'' : Lg), StM MX12_findBlocks s0 l0 sg'' lg'' → 0 ≤ v1''.toInt → v1''.toInt ≤ 12 → v1'.toInt < v1''.toInt → Ok (PVM MX12_findBlocks s0 l0) (r23 (v1'', sg'', lg''))) → v2.toInt < v2'.toInt → Ok (PVM MX12_findBlocks s0 l0) (r31 (v1', v2', sg', lg'))) : Ok (PVM MX12_findBlocks s0 l0) (fX12_findBlocks_57 r23 r31 v1 v2 w0 sg lg) := by
  unfold fX12_findBlocks_57
  refine ok_ite (fun c1 => ?_) (fun c1 => ?_)
  · have k2 : (0 : Int32).toInt = 0 := by decide
    replace c1 := i_lt.mp c1
    exact sX12_findBlocks_110 hS (by omega) (by omega) (by omega) (by omega) hr23 hr31
  · have k3 : (0 : Int32).toInt = 0 := by decide
    replace c1 := i_nlt.mp c1
    refine ok_gin (by omega) (by omega) ?_
    refine ok_gin (by omega) (by omega) ?_
    refine ok_ite (fun c4 => ?_) (fun c4 => ?_)
    · have f5 := rdM7 hS.1 (j := w0.toNatClampNeg)
      have f6 := rdM7 hS.1 (j := v2.toNatClampNeg)
      replace c4 := i_le.mp c4
      refine ok_gin (by omega) (by omega) ?_
      exact sX12_findBlocks_92 hS (by omega) (by omega) (by omega) (by omega) (by omega) (by omega) (by omega) (by omega) hr23 hr31
    · have f7 := rdM7 hS.1 (j := w0.toNatClampNeg)
      have f8 := rdM7 hS.1 (j := v2.toNatClampNeg)
      replace c4 := i_nle.mp c4
      refine ok_gin (by omega) (by omega) ?_
      exact sX12_findBlocks_92 hS (by omega) (by omega) (by omega) (by omega) (by omega) (by omega) (by omega) (by omega) hr23 hr31
set_option maxHeartbeats 4000000 in
theorem sX12_findBlocks_31 {s0 : Sg} {l0 : Lg} {r23 : (Int32 × Sg × Lg) → Option (Sg × Lg)} {r31 : (Int32 × Int32 × Sg × Lg) → Option (Sg × Lg)} {v1 : Int32} {v2 : Int32} {sg : Sg} {lg : Lg} (hS : StM MX12_findBlocks s0 l0 sg lg) (v1l : 0 ≤ v1.toInt) (v1h : v1.toInt ≤ 11) (v2l : 0 ≤ v2.toInt) (v2h : v2.toInt ≤ 12) (hr23 : ∀ (v1' : Int32) (sg' : Sg) (lg' : Lg), StM MX12_findBlocks s0 l0 sg' lg' → 0 ≤ v1'.toInt → v1'.toInt ≤ 12 → v1.toInt < v1'.toInt → Ok (PVM MX12_findBlocks s0 l0) (r23 (v1', sg', lg'))) (hr31 : ∀ (v1' : Int32) (v2' : Int32) (sg' : Sg) (lg' : Lg), StM MX12_findBlocks s0 l0 sg' lg' → 0 ≤ v1'.toInt → v1'.toInt ≤ 11 → 0 ≤ v2'.toInt → v2'.toInt ≤ 12 → (∀ (v1'' : Int32) (sg'' : Sg) (lg'' : Lg), StM MX12_findBlocks s0 l0 sg'' lg'' → 0 ≤ v1''.toInt → v1''.toInt ≤ 12 → v1'.toInt < v1''.toInt → Ok (PVM MX12_findBlocks s0 l0) (r23 (v1'', sg'', lg''))) → v2.toInt < v2'.toInt → Ok (PVM MX12_findBlocks s0 l0) (r31 (v1', v2', sg', lg'))) : Ok (PVM MX12_findBlocks s0 l0) (fX12_findBlocks_31 r23 r31 v1 v2 sg lg) := by
  unfold fX12_findBlocks_31
  refine bnd3_puM (sX12_hens  hS.1) (fun y1 qy1 zy1 => ?_)
  refine ok_ite (fun c1 => ?_) (fun c1 => ?_)
  · replace c1 := i_le.mp c1
    refine ok_lt (fun x6 ex6 => ?_)
    replace ex6 : x6.toInt = v1.toInt + 1 := by rw [ex6]; exact add_c 1 (by decide) (by omega) (by omega)
    exact hr23 x6 sg lg hS (by omega) (by omega) (by omega)
  · replace c1 := i_nle.mp c1
    refine bnd3_puM (sX12_kind (v1 := v2) hS.1 (by omega) (by omega)) (fun y7 qy7 zy7 => ?_)
    refine ok_ite (fun c2 => ?_) (fun c2 => ?_)
    · have k3 : (3 : Int32).toInt = 3 := by decide
      replace c2 := i_eq.mp c2
      refine bnd3_puM (sX12_askedBy (v1 := v2) hS.1 (by omega) (by omega)) (fun y12 qy12 zy12 => ?_)
      exact sX12_findBlocks_57 hS (by omega) (by omega) (by omega) (by omega) (by omega) (by omega) hr23 hr31
    · have k4 : (3 : Int32).toInt = 3 := by decide
      replace c2 := i_ne.mp c2
      have k5 : (-1 : Int32).toInt = -1 := by decide
      exact sX12_findBlocks_57 hS (by omega) (by omega) (by omega) (by omega) (by omega) (by omega) hr23 hr31
set_option maxHeartbeats 4000000 in
theorem sLX12_findBlocks_31 {s0 : Sg} {l0 : Lg} {r23 : (Int32 × Sg × Lg) → Option (Sg × Lg)} {v1 : Int32} {v2 : Int32} {sg : Sg} {lg : Lg} (hS : StM MX12_findBlocks s0 l0 sg lg) (v1l : 0 ≤ v1.toInt) (v1h : v1.toInt ≤ 11) (v2l : 0 ≤ v2.toInt) (v2h : v2.toInt ≤ 12) (hr23 : ∀ (v1' : Int32) (sg' : Sg) (lg' : Lg), StM MX12_findBlocks s0 l0 sg' lg' → 0 ≤ v1'.toInt → v1'.toInt ≤ 12 → v1.toInt < v1'.toInt → Ok (PVM MX12_findBlocks s0 l0) (r23 (v1', sg', lg'))) : Ok (PVM MX12_findBlocks s0 l0) (LX12_findBlocks_31 r23 (v1, v2, sg, lg)) := by
  unfold LX12_findBlocks_31
  refine ok_loop (I := fun (z : Int32 × Int32 × Sg × Lg) => StM MX12_findBlocks s0 l0 z.2.2.1 z.2.2.2 ∧ 0 ≤ z.1.toInt ∧ z.1.toInt ≤ 11 ∧ 0 ≤ z.2.1.toInt ∧ z.2.1.toInt ≤ 12 ∧ (∀ (v1' : Int32) (sg' : Sg) (lg' : Lg), StM MX12_findBlocks s0 l0 sg' lg' → 0 ≤ v1'.toInt → v1'.toInt ≤ 12 → z.1.toInt < v1'.toInt → Ok (PVM MX12_findBlocks s0 l0) (r23 (v1', sg', lg')))) (m := fun (z : Int32 × Int32 × Sg × Lg) => (13 - z.2.1.toInt).toNat) _ ?_ ?_ _ ?_
  · intro z hz
    obtain ⟨h0, h1, h2, h3, h4, h5⟩ := hz
    show (13 - z.2.1.toInt).toNat < 10000
    omega
  · intro rec z hz hrec
    obtain ⟨v1, v2, sg, lg⟩ := z
    replace hz : StM MX12_findBlocks s0 l0 sg lg ∧ 0 ≤ v1.toInt ∧ v1.toInt ≤ 11 ∧ 0 ≤ v2.toInt ∧ v2.toInt ≤ 12 ∧ (∀ (v1' : Int32) (sg' : Sg) (lg' : Lg), StM MX12_findBlocks s0 l0 sg' lg' → 0 ≤ v1'.toInt → v1'.toInt ≤ 12 → v1.toInt < v1'.toInt → Ok (PVM MX12_findBlocks s0 l0) (r23 (v1', sg', lg'))) := hz
    obtain ⟨h0, h1, h2, h3, h4, h5⟩ := hz
    show Ok (PVM MX12_findBlocks s0 l0) (fX12_findBlocks_31 r23 rec v1 v2 sg lg)
    exact sX12_findBlocks_31 h0 h1 h2 h3 h4 h5 (fun v1' v2' sg' lg' g0 g1 g2 g3 g4 g5 g6 => hrec (v1', v2', sg', lg') ⟨g0, g1, g2, g3, g4, g5⟩ (show (13 - v2'.toInt).toNat < (13 - v2.toInt).toNat by omega))
  · exact ⟨hS, v1l, v1h, v2l, v2h, hr23⟩
set_option maxHeartbeats 4000000 in
theorem sX12_findBlocks_23 {s0 : Sg} {l0 : Lg} {r23 : (Int32 × Sg × Lg) → Option (Sg × Lg)} {v1 : Int32} {sg : Sg} {lg : Lg} (hS : StM MX12_findBlocks s0 l0 sg lg) (v1l : 0 ≤ v1.toInt) (v1h : v1.toInt ≤ 12) (hr23 : ∀ (v1' : Int32) (sg' : Sg) (lg' : Lg), StM MX12_findBlocks s0 l0 sg' lg' → 0 ≤ v1'.toInt → v1'.toInt ≤ 12 → v1.toInt < v1'.toInt → Ok (PVM MX12_findBlocks s0 l0) (r23 (v1', sg', lg'))) : Ok (PVM MX12_findBlocks s0 l0) (fX12_findBlocks_23 r23 v1 sg lg) := by
  unfold fX12_findBlocks_23
  refine ok_ite (fun c1 => ?_) (fun c1 => ?_)
  · have k2 : (12 : Int32).toInt = 12 := by decide
    replace c1 := i_le.mp c1
    exact ok_some (mkPVM hS)
  · have k3 : (12 : Int32).toInt = 12 := by decide
    replace c1 := i_nle.mp c1
    have k4 : (0 : Int32).toInt = 0 := by decide
    exact sLX12_findBlocks_31 hS (by omega) (by omega) (by omega) (by omega) hr23
set_option maxHeartbeats 4000000 in
theorem sLX12_findBlocks_23 {s0 : Sg} {l0 : Lg} {v1 : Int32} {sg : Sg} {lg : Lg} (hS : StM MX12_findBlocks s0 l0 sg lg) (v1l : 0 ≤ v1.toInt) (v1h : v1.toInt ≤ 12) : Ok (PVM MX12_findBlocks s0 l0) (LX12_findBlocks_23 (v1, sg, lg)) := by
  unfold LX12_findBlocks_23
  refine ok_loop (I := fun (z : Int32 × Sg × Lg) => StM MX12_findBlocks s0 l0 z.2.1 z.2.2 ∧ 0 ≤ z.1.toInt ∧ z.1.toInt ≤ 12) (m := fun (z : Int32 × Sg × Lg) => (13 - z.1.toInt).toNat) _ ?_ ?_ _ ?_
  · intro z hz
    obtain ⟨h0, h1, h2⟩ := hz
    show (13 - z.1.toInt).toNat < 10000
    omega
  · intro rec z hz hrec
    obtain ⟨v1, sg, lg⟩ := z
    replace hz : StM MX12_findBlocks s0 l0 sg lg ∧ 0 ≤ v1.toInt ∧ v1.toInt ≤ 12 := hz
    obtain ⟨h0, h1, h2⟩ := hz
    show Ok (PVM MX12_findBlocks s0 l0) (fX12_findBlocks_23 rec v1 sg lg)
    exact sX12_findBlocks_23 h0 h1 h2 (fun v1' sg' lg' g0 g1 g2 g3 => hrec (v1', sg', lg') ⟨g0, g1, g2⟩ (show (13 - v1'.toInt).toNat < (13 - v1.toInt).toNat by omega))
  · exact ⟨hS, v1l, v1h⟩
set_option maxHeartbeats 4000000 in
theorem sX12_findBlocks_2 {s0 : Sg} {l0 : Lg} {r2 : (Int32 × Sg × Lg) → Option (Sg × Lg)} {v1 : Int32} {sg : Sg} {lg : Lg} (hS : StM MX12_findBlocks s0 l0 sg lg) (v1l : 0 ≤ v1.toInt) (v1h : v1.toInt ≤ 12) (hr2 : ∀ (v1' : Int32) (sg' : Sg) (lg' : Lg), StM MX12_findBlocks s0 l0 sg' lg' → 0 ≤ v1'.toInt → v1'.toInt ≤ 12 → v1.toInt < v1'.toInt → Ok (PVM MX12_findBlocks s0 l0) (r2 (v1', sg', lg'))) : Ok (PVM MX12_findBlocks s0 l0) (fX12_findBlocks_2 r2 v1 sg lg) := by
  unfold fX12_findBlocks_2
  refine ok_ite (fun c1 => ?_) (fun c1 => ?_)
  · have k2 : (12 : Int32).toInt = 12 := by decide
    replace c1 := i_le.mp c1
    have k3 : (0 : Int32).toInt = 0 := by decide
    exact sLX12_findBlocks_23 hS (by omega) (by omega)
  · have k4 : (12 : Int32).toInt = 12 := by decide
    replace c1 := i_nle.mp c1
    refine ok_gin (by omega) (by omega) ?_
    refine ok_lt (fun sg3 esg3 => ?_)
    have hS5 := upM7 hS (by decide) esg3 (by omega) (by omega)
    refine ok_lt (fun x4 ex4 => ?_)
    replace ex4 : x4.toInt = v1.toInt + 1 := by rw [ex4]; exact add_c 1 (by decide) (by omega) (by omega)
    exact hr2 x4 sg3 lg hS5 (by omega) (by omega) (by omega)
set_option maxHeartbeats 4000000 in
theorem sLX12_findBlocks_2 {s0 : Sg} {l0 : Lg} {v1 : Int32} {sg : Sg} {lg : Lg} (hS : StM MX12_findBlocks s0 l0 sg lg) (v1l : 0 ≤ v1.toInt) (v1h : v1.toInt ≤ 12) : Ok (PVM MX12_findBlocks s0 l0) (LX12_findBlocks_2 (v1, sg, lg)) := by
  unfold LX12_findBlocks_2
  refine ok_loop (I := fun (z : Int32 × Sg × Lg) => StM MX12_findBlocks s0 l0 z.2.1 z.2.2 ∧ 0 ≤ z.1.toInt ∧ z.1.toInt ≤ 12) (m := fun (z : Int32 × Sg × Lg) => (13 - z.1.toInt).toNat) _ ?_ ?_ _ ?_
  · intro z hz
    obtain ⟨h0, h1, h2⟩ := hz
    show (13 - z.1.toInt).toNat < 10000
    omega
  · intro rec z hz hrec
    obtain ⟨v1, sg, lg⟩ := z
    replace hz : StM MX12_findBlocks s0 l0 sg lg ∧ 0 ≤ v1.toInt ∧ v1.toInt ≤ 12 := hz
    obtain ⟨h0, h1, h2⟩ := hz
    show Ok (PVM MX12_findBlocks s0 l0) (fX12_findBlocks_2 rec v1 sg lg)
    exact sX12_findBlocks_2 h0 h1 h2 (fun v1' sg' lg' g0 g1 g2 g3 => hrec (v1', sg', lg') ⟨g0, g1, g2⟩ (show (13 - v1'.toInt).toNat < (13 - v1.toInt).toNat by omega))
  · exact ⟨hS, v1l, v1h⟩
set_option maxHeartbeats 4000000 in
theorem sX12_findBlocks {sg : Sg} {lg : Lg} (hI : IM sg lg) : Ok (PVM MX12_findBlocks sg lg) (fX12_findBlocks sg lg) := by
  have hS : StM MX12_findBlocks sg lg sg lg := StM.rf hI
  unfold fX12_findBlocks
  have k1 : (0 : Int32).toInt = 0 := by decide
  exact sLX12_findBlocks_2 hS (by omega) (by omega)
set_option maxHeartbeats 4000000 in
theorem sX12_findDirect_72 {s0 : Sg} {l0 : Lg} {r24 : (Int32 × Sg × Lg) → Option (Sg × Lg)} {v1 : Int32} {sg : Sg} {lg : Lg} (hS : StM MX12_findDirect s0 l0 sg lg) (v1l : 0 ≤ v1.toInt) (v1h : v1.toInt ≤ 11) (hr24 : ∀ (v1' : Int32) (sg' : Sg) (lg' : Lg), StM MX12_findDirect s0 l0 sg' lg' → 0 ≤ v1'.toInt → v1'.toInt ≤ 12 → v1.toInt < v1'.toInt → Ok (PVM MX12_findDirect s0 l0) (r24 (v1', sg', lg'))) : Ok (PVM MX12_findDirect s0 l0) (fX12_findDirect_72 r24 v1 sg lg) := by
  unfold fX12_findDirect_72
  refine ok_lt (fun x1 ex1 => ?_)
  replace ex1 : x1.toInt = v1.toInt + 1 := by rw [ex1]; exact add_c 1 (by decide) (by omega) (by omega)
  exact hr24 x1 sg lg hS (by omega) (by omega) (by omega)
set_option maxHeartbeats 4000000 in
theorem sX12_findDirect_70 {s0 : Sg} {l0 : Lg} {r24 : (Int32 × Sg × Lg) → Option (Sg × Lg)} {v1 : Int32} {w0 : Int32} {sg : Sg} {lg : Lg} (hS : StM MX12_findDirect s0 l0 sg lg) (v1l : 0 ≤ v1.toInt) (v1h : v1.toInt ≤ 11) (w0l : 0 ≤ w0.toInt) (w0h : w0.toInt ≤ 143) (hr24 : ∀ (v1' : Int32) (sg' : Sg) (lg' : Lg), StM MX12_findDirect s0 l0 sg' lg' → 0 ≤ v1'.toInt → v1'.toInt ≤ 12 → v1.toInt < v1'.toInt → Ok (PVM MX12_findDirect s0 l0) (r24 (v1', sg', lg'))) : Ok (PVM MX12_findDirect s0 l0) (fX12_findDirect_70 r24 v1 w0 sg lg) := by
  unfold fX12_findDirect_70
  refine ok_gin (by omega) (by omega) ?_
  have k1 : (1 : Int32).toInt = 1 := by decide
  have f2 := and_l (a := (1 : Int32)) (b := 1) (by omega)
  have f3 := and_r (a := (1 : Int32)) (b := 1) (by omega)
  refine ok_lt (fun sg2 esg2 => ?_)
  have hS4 := upM6 hS (by decide) esg2 (by omega) (by omega)
  exact sX12_findDirect_72 hS4 (by omega) (by omega) hr24
set_option maxHeartbeats 4000000 in
theorem sX12_findDirect_24 {s0 : Sg} {l0 : Lg} {r24 : (Int32 × Sg × Lg) → Option (Sg × Lg)} {v1 : Int32} {sg : Sg} {lg : Lg} (hS : StM MX12_findDirect s0 l0 sg lg) (v1l : 0 ≤ v1.toInt) (v1h : v1.toInt ≤ 12) (hr24 : ∀ (v1' : Int32) (sg' : Sg) (lg' : Lg), StM MX12_findDirect s0 l0 sg' lg' → 0 ≤ v1'.toInt → v1'.toInt ≤ 12 → v1.toInt < v1'.toInt → Ok (PVM MX12_findDirect s0 l0) (r24 (v1', sg', lg'))) : Ok (PVM MX12_findDirect s0 l0) (fX12_findDirect_24 r24 v1 sg lg) := by
  unfold fX12_findDirect_24
  refine bnd3_puM (sX12_hens  hS.1) (fun y1 qy1 zy1 => ?_)
  refine ok_ite (fun c1 => ?_) (fun c1 => ?_)
  · replace c1 := i_le.mp c1
    exact ok_some (mkPVM hS)
  · replace c1 := i_nle.mp c1
    refine bnd3_puM (sX12_askedBy (v1 := v1) hS.1 (by omega) (by omega)) (fun y6 qy6 zy6 => ?_)
    refine ok_ite (fun c2 => ?_) (fun c2 => ?_)
    · have k3 : (0 : Int32).toInt = 0 := by decide
      replace c2 := i_lt.mp c2
      exact sX12_findDirect_72 hS (by omega) (by omega) hr24
    · have k4 : (0 : Int32).toInt = 0 := by decide
      replace c2 := i_nlt.mp c2
      refine bnd3_puM (sX12_kind (v1 := v1) hS.1 (by omega) (by omega)) (fun y11 qy11 zy11 => ?_)
      refine ok_ite (fun c5 => ?_) (fun c5 => ?_)
      · have k6 : (2 : Int32).toInt = 2 := by decide
        replace c5 := i_eq.mp c5
        have k7 : (12 : Int32).toInt = 12 := by decide
        have f8 := mul_l (a := (12 : Int32)) (b := v1) 12 (by decide) (by omega) (by omega)
        have f9 := add_i (a := ((12 : Int32) * v1)) (b := y6) (by omega) (by omega)
        exact sX12_findDirect_70 hS (by omega) (by omega) (by omega) (by omega) hr24
      · have k10 : (2 : Int32).toInt = 2 := by decide
        replace c5 := i_ne.mp c5
        have k11 : (12 : Int32).toInt = 12 := by decide
        have f12 := mul_l (a := (12 : Int32)) (b := y6) 12 (by decide) (by omega) (by omega)
        have f13 := add_i (a := ((12 : Int32) * y6)) (b := v1) (by omega) (by omega)
        exact sX12_findDirect_70 hS (by omega) (by omega) (by omega) (by omega) hr24
set_option maxHeartbeats 4000000 in
theorem sLX12_findDirect_24 {s0 : Sg} {l0 : Lg} {v1 : Int32} {sg : Sg} {lg : Lg} (hS : StM MX12_findDirect s0 l0 sg lg) (v1l : 0 ≤ v1.toInt) (v1h : v1.toInt ≤ 12) : Ok (PVM MX12_findDirect s0 l0) (LX12_findDirect_24 (v1, sg, lg)) := by
  unfold LX12_findDirect_24
  refine ok_loop (I := fun (z : Int32 × Sg × Lg) => StM MX12_findDirect s0 l0 z.2.1 z.2.2 ∧ 0 ≤ z.1.toInt ∧ z.1.toInt ≤ 12) (m := fun (z : Int32 × Sg × Lg) => (13 - z.1.toInt).toNat) _ ?_ ?_ _ ?_
  · intro z hz
    obtain ⟨h0, h1, h2⟩ := hz
    show (13 - z.1.toInt).toNat < 10000
    omega
  · intro rec z hz hrec
    obtain ⟨v1, sg, lg⟩ := z
    replace hz : StM MX12_findDirect s0 l0 sg lg ∧ 0 ≤ v1.toInt ∧ v1.toInt ≤ 12 := hz
    obtain ⟨h0, h1, h2⟩ := hz
    show Ok (PVM MX12_findDirect s0 l0) (fX12_findDirect_24 rec v1 sg lg)
    exact sX12_findDirect_24 h0 h1 h2 (fun v1' sg' lg' g0 g1 g2 g3 => hrec (v1', sg', lg') ⟨g0, g1, g2⟩ (show (13 - v1'.toInt).toNat < (13 - v1.toInt).toNat by omega))
  · exact ⟨hS, v1l, v1h⟩
set_option maxHeartbeats 4000000 in
theorem sX12_findDirect_2 {s0 : Sg} {l0 : Lg} {r2 : (Int32 × Sg × Lg) → Option (Sg × Lg)} {v1 : Int32} {sg : Sg} {lg : Lg} (hS : StM MX12_findDirect s0 l0 sg lg) (v1l : 0 ≤ v1.toInt) (v1h : v1.toInt ≤ 144) (hr2 : ∀ (v1' : Int32) (sg' : Sg) (lg' : Lg), StM MX12_findDirect s0 l0 sg' lg' → 0 ≤ v1'.toInt → v1'.toInt ≤ 144 → v1.toInt < v1'.toInt → Ok (PVM MX12_findDirect s0 l0) (r2 (v1', sg', lg'))) : Ok (PVM MX12_findDirect s0 l0) (fX12_findDirect_2 r2 v1 sg lg) := by
  unfold fX12_findDirect_2
  refine ok_ite (fun c1 => ?_) (fun c1 => ?_)
  · have k2 : (144 : Int32).toInt = 144 := by decide
    replace c1 := i_le.mp c1
    have k3 : (0 : Int32).toInt = 0 := by decide
    exact sLX12_findDirect_24 hS (by omega) (by omega)
  · have k4 : (144 : Int32).toInt = 144 := by decide
    replace c1 := i_nle.mp c1
    refine ok_gin (by omega) (by omega) ?_
    have k5 : (0 : Int32).toInt = 0 := by decide
    have k6 : (1 : Int32).toInt = 1 := by decide
    have f7 := and_l (a := (0 : Int32)) (b := 1) (by omega)
    have f8 := and_r (a := (0 : Int32)) (b := 1) (by omega)
    refine ok_lt (fun sg3 esg3 => ?_)
    have hS9 := upM6 hS (by decide) esg3 (by omega) (by omega)
    refine ok_lt (fun x4 ex4 => ?_)
    replace ex4 : x4.toInt = v1.toInt + 1 := by rw [ex4]; exact add_c 1 (by decide) (by omega) (by omega)
    exact hr2 x4 sg3 lg hS9 (by omega) (by omega) (by omega)
set_option maxHeartbeats 4000000 in
theorem sLX12_findDirect_2 {s0 : Sg} {l0 : Lg} {v1 : Int32} {sg : Sg} {lg : Lg} (hS : StM MX12_findDirect s0 l0 sg lg) (v1l : 0 ≤ v1.toInt) (v1h : v1.toInt ≤ 144) : Ok (PVM MX12_findDirect s0 l0) (LX12_findDirect_2 (v1, sg, lg)) := by
  unfold LX12_findDirect_2
  refine ok_loop (I := fun (z : Int32 × Sg × Lg) => StM MX12_findDirect s0 l0 z.2.1 z.2.2 ∧ 0 ≤ z.1.toInt ∧ z.1.toInt ≤ 144) (m := fun (z : Int32 × Sg × Lg) => (145 - z.1.toInt).toNat) _ ?_ ?_ _ ?_
  · intro z hz
    obtain ⟨h0, h1, h2⟩ := hz
    show (145 - z.1.toInt).toNat < 10000
    omega
  · intro rec z hz hrec
    obtain ⟨v1, sg, lg⟩ := z
    replace hz : StM MX12_findDirect s0 l0 sg lg ∧ 0 ≤ v1.toInt ∧ v1.toInt ≤ 144 := hz
    obtain ⟨h0, h1, h2⟩ := hz
    show Ok (PVM MX12_findDirect s0 l0) (fX12_findDirect_2 rec v1 sg lg)
    exact sX12_findDirect_2 h0 h1 h2 (fun v1' sg' lg' g0 g1 g2 g3 => hrec (v1', sg', lg') ⟨g0, g1, g2⟩ (show (145 - v1'.toInt).toNat < (145 - v1.toInt).toNat by omega))
  · exact ⟨hS, v1l, v1h⟩
set_option maxHeartbeats 4000000 in
theorem sX12_findDirect {sg : Sg} {lg : Lg} (hI : IM sg lg) : Ok (PVM MX12_findDirect sg lg) (fX12_findDirect sg lg) := by
  have hS : StM MX12_findDirect sg lg sg lg := StM.rf hI
  unfold fX12_findDirect
  have k1 : (0 : Int32).toInt = 0 := by decide
  exact sLX12_findDirect_2 hS (by omega) (by omega)
set_option maxHeartbeats 4000000 in
theorem sX12_grows_189 {s0 : Sg} {l0 : Lg} {r5 : (Int32 × Int32 × Int32 × Int32 × Sg × Lg) → Option (Int32 × Sg × Lg)} {r17 : (Int32 × Int32 × Int32 × Int32 × Int32 × Sg × Lg) → Option (Int32 × Sg × Lg)} {v1 : Int32} {v2 : Int32} {v3 : Int32} {v4 : Int32} {v5 : Int32} {sg : Sg} {lg : Lg} (hS : StM MX12_grows s0 l0 sg lg) (v1l : 0 ≤ v1.toInt) (v1h : v1.toInt ≤ 11) (v2l : 0 ≤ v2.toInt) (v2h : v2.toInt ≤ 11) (v3l : 0 ≤ v3.toInt) (v3h : v3.toInt ≤ 1) (v4l : 0 ≤ v4.toInt) (v4h : v4.toInt ≤ 11) (v5l : 0 ≤ v5.toInt) (v5h : v5.toInt ≤ 11) (xz : zr sg ≤ zr s0 ∧ (v3.toInt = 0 ∨ zr sg < zr s0)) (hr5 : ∀ (v1' : Int32) (v2' : Int32) (v3' : Int32) (v4' : Int32) (sg' : Sg) (lg' : Lg), StM MX12_grows s0 l0 sg' lg' → 0 ≤ v1'.toInt → v1'.toInt ≤ 11 → 0 ≤ v2'.toInt → v2'.toInt ≤ 11 → 0 ≤ v3'.toInt → v3'.toInt ≤ 1 → 0 ≤ v4'.toInt → v4'.toInt ≤ 12 → (zr sg' ≤ zr s0 ∧ (v3'.toInt = 0 ∨ zr sg' < zr s0)) → v4.toInt < v4'.toInt → Ok (PIXM MX12_grows s0 l0 0 1 (fun (y : Int) (r : Sg) => zr r ≤ zr s0 ∧ (y = 0 ∨ zr r < zr s0))) (r5 (v1', v2', v3', v4', sg', lg'))) (hr17 : ∀ (v1' : Int32) (v2' : Int32) (v3' : Int32) (v4' : Int32) (v5' : Int32) (sg' : Sg) (lg' : Lg), StM MX12_grows s0 l0 sg' lg' → 0 ≤ v1'.toInt → v1'.toInt ≤ 11 → 0 ≤ v2'.toInt → v2'.toInt ≤ 11 → 0 ≤ v3'.toInt → v3'.toInt ≤ 1 → 0 ≤ v4'.toInt → v4'.toInt ≤ 11 → 0 ≤ v5'.toInt → v5'.toInt ≤ 12 → (zr sg' ≤ zr s0 ∧ (v3'.toInt = 0 ∨ zr sg' < zr s0)) → (∀ (v1'' : Int32) (v2'' : Int32) (v3'' : Int32) (v4'' : Int32) (sg'' : Sg) (lg'' : Lg), StM MX12_grows s0 l0 sg'' lg'' → 0 ≤ v1''.toInt → v1''.toInt ≤ 11 → 0 ≤ v2''.toInt → v2''.toInt ≤ 11 → 0 ≤ v3''.toInt → v3''.toInt ≤ 1 → 0 ≤ v4''.toInt → v4''.toInt ≤ 12 → (zr sg'' ≤ zr s0 ∧ (v3''.toInt = 0 ∨ zr sg'' < zr s0)) → v4'.toInt < v4''.toInt → Ok (PIXM MX12_grows s0 l0 0 1 (fun (y : Int) (r : Sg) => zr r ≤ zr s0 ∧ (y = 0 ∨ zr r < zr s0))) (r5 (v1'', v2'', v3'', v4'', sg'', lg''))) → v5.toInt < v5'.toInt → Ok (PIXM MX12_grows s0 l0 0 1 (fun (y : Int) (r : Sg) => zr r ≤ zr s0 ∧ (y = 0 ∨ zr r < zr s0))) (r17 (v1', v2', v3', v4', v5', sg', lg'))) : Ok (PIXM MX12_grows s0 l0 0 1 (fun (y : Int) (r : Sg) => zr r ≤ zr s0 ∧ (y = 0 ∨ zr r < zr s0))) (fX12_grows_189 r5 r17 v1 v2 v3 v4 v5 sg lg) := by
  unfold fX12_grows_189
  refine ok_lt (fun x1 ex1 => ?_)
  replace ex1 : x1.toInt = v5.toInt + 1 := by rw [ex1]; exact add_c 1 (by decide) (by omega) (by omega)
  exact hr17 v1 v2 v3 v4 x1 sg lg hS (by omega) (by omega) (by omega) (by omega) (by omega) (by omega) (by omega) (by omega) (by omega) (by omega) (by omega) hr5 (by omega)
set_option maxHeartbeats 4000000 in
theorem sX12_grows_157 {s0 : Sg} {l0 : Lg} {r5 : (Int32 × Int32 × Int32 × Int32 × Sg × Lg) → Option (Int32 × Sg × Lg)} {r17 : (Int32 × Int32 × Int32 × Int32 × Int32 × Sg × Lg) → Option (Int32 × Sg × Lg)} {v1 : Int32} {v2 : Int32} {v3 : Int32} {v4 : Int32} {v5 : Int32} {sg : Sg} {lg : Lg} (hS : StM MX12_grows s0 l0 sg lg) (v1l : 0 ≤ v1.toInt) (v1h : v1.toInt ≤ 11) (v2l : 0 ≤ v2.toInt) (v2h : v2.toInt ≤ 11) (v3l : 0 ≤ v3.toInt) (v3h : v3.toInt ≤ 1) (v4l : 0 ≤ v4.toInt) (v4h : v4.toInt ≤ 11) (v5l : 0 ≤ v5.toInt) (v5h : v5.toInt ≤ 11) (xz : zr sg ≤ zr s0 ∧ (v3.toInt = 0 ∨ zr sg < zr s0)) (hr5 : ∀ (v1' : Int32) (v2' : Int32) (v3' : Int32) (v4' : Int32) (sg' : Sg) (lg' : Lg), StM MX12_grows s0 l0 sg' lg' → 0 ≤ v1'.toInt → v1'.toInt ≤ 11 → 0 ≤ v2'.toInt → v2'.toInt ≤ 11 → 0 ≤ v3'.toInt → v3'.toInt ≤ 1 → 0 ≤ v4'.toInt → v4'.toInt ≤ 12 → (zr sg' ≤ zr s0 ∧ (v3'.toInt = 0 ∨ zr sg' < zr s0)) → v4.toInt < v4'.toInt → Ok (PIXM MX12_grows s0 l0 0 1 (fun (y : Int) (r : Sg) => zr r ≤ zr s0 ∧ (y = 0 ∨ zr r < zr s0))) (r5 (v1', v2', v3', v4', sg', lg'))) (hr17 : ∀ (v1' : Int32) (v2' : Int32) (v3' : Int32) (v4' : Int32) (v5' : Int32) (sg' : Sg) (lg' : Lg), StM MX12_grows s0 l0 sg' lg' → 0 ≤ v1'.toInt → v1'.toInt ≤ 11 → 0 ≤ v2'.toInt → v2'.toInt ≤ 11 → 0 ≤ v3'.toInt → v3'.toInt ≤ 1 → 0 ≤ v4'.toInt → v4'.toInt ≤ 11 → 0 ≤ v5'.toInt → v5'.toInt ≤ 12 → (zr sg' ≤ zr s0 ∧ (v3'.toInt = 0 ∨ zr sg' < zr s0)) → (∀ (v1'' : Int32) (v2'' : Int32) (v3'' : Int32) (v4'' : Int32) (sg'' : Sg) (lg'' : Lg), StM MX12_grows s0 l0 sg'' lg'' → 0 ≤ v1''.toInt → v1''.toInt ≤ 11 → 0 ≤ v2''.toInt → v2''.toInt ≤ 11 → 0 ≤ v3''.toInt → v3''.toInt ≤ 1 → 0 ≤ v4''.toInt → v4''.toInt ≤ 12 → (zr sg'' ≤ zr s0 ∧ (v3''.toInt = 0 ∨ zr sg'' < zr s0)) → v4'.toInt < v4''.toInt → Ok (PIXM MX12_grows s0 l0 0 1 (fun (y : Int) (r : Sg) => zr r ≤ zr s0 ∧ (y = 0 ∨ zr r < zr s0))) (r5 (v1'', v2'', v3'', v4'', sg'', lg''))) → v5.toInt < v5'.toInt → Ok (PIXM MX12_grows s0 l0 0 1 (fun (y : Int) (r : Sg) => zr r ≤ zr s0 ∧ (y = 0 ∨ zr r < zr s0))) (r17 (v1', v2', v3', v4', v5', sg', lg'))) : Ok (PIXM MX12_grows s0 l0 0 1 (fun (y : Int) (r : Sg) => zr r ≤ zr s0 ∧ (y = 0 ∨ zr r < zr s0))) (fX12_grows_157 r5 r17 v1 v2 v3 v4 v5 sg lg) := by
  unfold fX12_grows_157
  have k1 : (12 : Int32).toInt = 12 := by decide
  have f2 := mul_l (a := (12 : Int32)) (b := v4) 12 (by decide) (by omega) (by omega)
  have f3 := add_i (a := ((12 : Int32) * v4)) (b := v5) (by omega) (by omega)
  refine ok_lt (fun x1 ex1 => ?_)
  replace ex1 := congrArg Int32.toInt ex1
  refine ok_gin (by omega) (by omega) ?_
  refine ok_ite (fun c4 => ?_) (fun c4 => ?_)
  · have f5 := rdM6 hS.1 (j := x1.toNatClampNeg)
    have k6 : (0 : Int32).toInt = 0 := by decide
    replace c4 := i_eq.mp c4
    refine ok_gin (by omega) (by omega) ?_
    have k7 : (1 : Int32).toInt = 1 := by decide
    have f8 := and_l (a := (1 : Int32)) (b := 1) (by omega)
    have f9 := and_r (a := (1 : Int32)) (b := 1) (by omega)
    refine ok_lt (fun sg5 esg5 => ?_)
    have hS10 := upM6 hS (by decide) esg5 (by omega) (by omega)
    have hz5 := zr_up esg5 (by omega) ex1 (by omega) (by omega)
    exact sX12_grows_189 hS10 (by omega) (by omega) (by omega) (by omega) (by omega) (by omega) (by omega) (by omega) (by omega) (by omega) (by omega) hr5 hr17
  · have f11 := rdM6 hS.1 (j := x1.toNatClampNeg)
    have k12 : (0 : Int32).toInt = 0 := by decide
    replace c4 := i_ne.mp c4
    exact sX12_grows_189 hS (by omega) (by omega) (by omega) (by omega) (by omega) (by omega) (by omega) (by omega) (by omega) (by omega) (by omega) hr5 hr17
set_option maxHeartbeats 4000000 in
theorem sX12_grows_145 {s0 : Sg} {l0 : Lg} {r5 : (Int32 × Int32 × Int32 × Int32 × Sg × Lg) → Option (Int32 × Sg × Lg)} {r17 : (Int32 × Int32 × Int32 × Int32 × Int32 × Sg × Lg) → Option (Int32 × Sg × Lg)} {v1 : Int32} {v2 : Int32} {v3 : Int32} {v4 : Int32} {v5 : Int32} {v6 : Int32} {w0 : Int32} {sg : Sg} {lg : Lg} (hS : StM MX12_grows s0 l0 sg lg) (v1l : 0 ≤ v1.toInt) (v1h : v1.toInt ≤ 11) (v2l : 0 ≤ v2.toInt) (v2h : v2.toInt ≤ 11) (v3l : 0 ≤ v3.toInt) (v3h : v3.toInt ≤ 1) (v4l : 0 ≤ v4.toInt) (v4h : v4.toInt ≤ 11) (v5l : 0 ≤ v5.toInt) (v5h : v5.toInt ≤ 11) (v6l : 0 ≤ v6.toInt) (v6h : v6.toInt ≤ 1) (w0l : 0 ≤ w0.toInt) (w0h : w0.toInt ≤ 1) (xz : zr sg ≤ zr s0 ∧ (v3.toInt = 0 ∨ zr sg < zr s0)) (hr5 : ∀ (v1' : Int32) (v2' : Int32) (v3' : Int32) (v4' : Int32) (sg' : Sg) (lg' : Lg), StM MX12_grows s0 l0 sg' lg' → 0 ≤ v1'.toInt → v1'.toInt ≤ 11 → 0 ≤ v2'.toInt → v2'.toInt ≤ 11 → 0 ≤ v3'.toInt → v3'.toInt ≤ 1 → 0 ≤ v4'.toInt → v4'.toInt ≤ 12 → (zr sg' ≤ zr s0 ∧ (v3'.toInt = 0 ∨ zr sg' < zr s0)) → v4.toInt < v4'.toInt → Ok (PIXM MX12_grows s0 l0 0 1 (fun (y : Int) (r : Sg) => zr r ≤ zr s0 ∧ (y = 0 ∨ zr r < zr s0))) (r5 (v1', v2', v3', v4', sg', lg'))) (hr17 : ∀ (v1' : Int32) (v2' : Int32) (v3' : Int32) (v4' : Int32) (v5' : Int32) (sg' : Sg) (lg' : Lg), StM MX12_grows s0 l0 sg' lg' → 0 ≤ v1'.toInt → v1'.toInt ≤ 11 → 0 ≤ v2'.toInt → v2'.toInt ≤ 11 → 0 ≤ v3'.toInt → v3'.toInt ≤ 1 → 0 ≤ v4'.toInt → v4'.toInt ≤ 11 → 0 ≤ v5'.toInt → v5'.toInt ≤ 12 → (zr sg' ≤ zr s0 ∧ (v3'.toInt = 0 ∨ zr sg' < zr s0)) → (∀ (v1'' : Int32) (v2'' : Int32) (v3'' : Int32) (v4'' : Int32) (sg'' : Sg) (lg'' : Lg), StM MX12_grows s0 l0 sg'' lg'' → 0 ≤ v1''.toInt → v1''.toInt ≤ 11 → 0 ≤ v2''.toInt → v2''.toInt ≤ 11 → 0 ≤ v3''.toInt → v3''.toInt ≤ 1 → 0 ≤ v4''.toInt → v4''.toInt ≤ 12 → (zr sg'' ≤ zr s0 ∧ (v3''.toInt = 0 ∨ zr sg'' < zr s0)) → v4'.toInt < v4''.toInt → Ok (PIXM MX12_grows s0 l0 0 1 (fun (y : Int) (r : Sg) => zr r ≤ zr s0 ∧ (y = 0 ∨ zr r < zr s0))) (r5 (v1'', v2'', v3'', v4'', sg'', lg''))) → v5.toInt < v5'.toInt → Ok (PIXM MX12_grows s0 l0 0 1 (fun (y : Int) (r : Sg) => zr r ≤ zr s0 ∧ (y = 0 ∨ zr r < zr s0))) (r17 (v1', v2', v3', v4', v5', sg', lg'))) : Ok (PIXM MX12_grows s0 l0 0 1 (fun (y : Int) (r : Sg) => zr r ≤ zr s0 ∧ (y = 0 ∨ zr r < zr s0))) (fX12_grows_145 r5 r17 v1 v2 v3 v4 v5 v6 w0 sg lg) := by
  unfold fX12_grows_145
  refine ok_ite (fun c1 => ?_) (fun c1 => ?_)
  · have k2 : (0 : Int32).toInt = 0 := by decide
    replace c1 := i_eq.mp c1
    refine ok_ite (fun c3 => ?_) (fun c3 => ?_)
    · replace c3 := i_eq.mp c3
      exact sX12_grows_189 hS (by omega) (by omega) (by omega) (by omega) (by omega) (by omega) (by omega) (by omega) (by omega) (by omega) (by omega) hr5 hr17
    · replace c3 := i_ne.mp c3
      exact sX12_grows_157 hS (by omega) (by omega) (by omega) (by omega) (by omega) (by omega) (by omega) (by omega) (by omega) (by omega) (by omega) hr5 hr17
  · have k4 : (0 : Int32).toInt = 0 := by decide
    replace c1 := i_ne.mp c1
    exact sX12_grows_157 hS (by omega) (by omega) (by omega) (by omega) (by omega) (by omega) (by omega) (by omega) (by omega) (by omega) (by omega) hr5 hr17
set_option maxHeartbeats 4000000 in
theorem sX12_grows_144 {s0 : Sg} {l0 : Lg} {r5 : (Int32 × Int32 × Int32 × Int32 × Sg × Lg) → Option (Int32 × Sg × Lg)} {r17 : (Int32 × Int32 × Int32 × Int32 × Int32 × Sg × Lg) → Option (Int32 × Sg × Lg)} {v1 : Int32} {v2 : Int32} {v3 : Int32} {v4 : Int32} {v5 : Int32} {v6 : Int32} {sg : Sg} {lg : Lg} (hS : StM MX12_grows s0 l0 sg lg) (v1l : 0 ≤ v1.toInt) (v1h : v1.toInt ≤ 11) (v2l : 0 ≤ v2.toInt) (v2h : v2.toInt ≤ 11) (v3l : 0 ≤ v3.toInt) (v3h : v3.toInt ≤ 1) (v4l : 0 ≤ v4.toInt) (v4h : v4.toInt ≤ 11) (v5l : 0 ≤ v5.toInt) (v5h : v5.toInt ≤ 11) (v6l : 0 ≤ v6.toInt) (v6h : v6.toInt ≤ 1) (xz : zr sg ≤ zr s0 ∧ (v3.toInt = 0 ∨ zr sg < zr s0)) (hr5 : ∀ (v1' : Int32) (v2' : Int32) (v3' : Int32) (v4' : Int32) (sg' : Sg) (lg' : Lg), StM MX12_grows s0 l0 sg' lg' → 0 ≤ v1'.toInt → v1'.toInt ≤ 11 → 0 ≤ v2'.toInt → v2'.toInt ≤ 11 → 0 ≤ v3'.toInt → v3'.toInt ≤ 1 → 0 ≤ v4'.toInt → v4'.toInt ≤ 12 → (zr sg' ≤ zr s0 ∧ (v3'.toInt = 0 ∨ zr sg' < zr s0)) → v4.toInt < v4'.toInt → Ok (PIXM MX12_grows s0 l0 0 1 (fun (y : Int) (r : Sg) => zr r ≤ zr s0 ∧ (y = 0 ∨ zr r < zr s0))) (r5 (v1', v2', v3', v4', sg', lg'))) (hr17 : ∀ (v1' : Int32) (v2' : Int32) (v3' : Int32) (v4' : Int32) (v5' : Int32) (sg' : Sg) (lg' : Lg), StM MX12_grows s0 l0 sg' lg' → 0 ≤ v1'.toInt → v1'.toInt ≤ 11 → 0 ≤ v2'.toInt → v2'.toInt ≤ 11 → 0 ≤ v3'.toInt → v3'.toInt ≤ 1 → 0 ≤ v4'.toInt → v4'.toInt ≤ 11 → 0 ≤ v5'.toInt → v5'.toInt ≤ 12 → (zr sg' ≤ zr s0 ∧ (v3'.toInt = 0 ∨ zr sg' < zr s0)) → (∀ (v1'' : Int32) (v2'' : Int32) (v3'' : Int32) (v4'' : Int32) (sg'' : Sg) (lg'' : Lg), StM MX12_grows s0 l0 sg'' lg'' → 0 ≤ v1''.toInt → v1''.toInt ≤ 11 → 0 ≤ v2''.toInt → v2''.toInt ≤ 11 → 0 ≤ v3''.toInt → v3''.toInt ≤ 1 → 0 ≤ v4''.toInt → v4''.toInt ≤ 12 → (zr sg'' ≤ zr s0 ∧ (v3''.toInt = 0 ∨ zr sg'' < zr s0)) → v4'.toInt < v4''.toInt → Ok (PIXM MX12_grows s0 l0 0 1 (fun (y : Int) (r : Sg) => zr r ≤ zr s0 ∧ (y = 0 ∨ zr r < zr s0))) (r5 (v1'', v2'', v3'', v4'', sg'', lg''))) → v5.toInt < v5'.toInt → Ok (PIXM MX12_grows s0 l0 0 1 (fun (y : Int) (r : Sg) => zr r ≤ zr s0 ∧ (y = 0 ∨ zr r < zr s0))) (r17 (v1', v2', v3', v4', v5', sg', lg'))) : Ok (PIXM MX12_grows s0 l0 0 1 (fun (y : Int) (r : Sg) => zr r ≤ zr s0 ∧ (y = 0 ∨ zr r < zr s0))) (fX12_grows_144 r5 r17 v1 v2 v3 v4 v5 v6 sg lg) := by
  unfold fX12_grows_144
  have k1 : (0 : Int32).toInt = 0 := by decide
  exact sX12_grows_145 hS (by omega) (by omega) (by omega) (by omega) (by omega) (by omega) (by omega) (by omega) (by omega) (by omega) (by omega) (by omega) (by omega) (by omega) (by omega) hr5 hr17
set_option maxHeartbeats 4000000 in
theorem sX12_grows_73 {s0 : Sg} {l0 : Lg} {r5 : (Int32 × Int32 × Int32 × Int32 × Sg × Lg) → Option (Int32 × Sg × Lg)} {r17 : (Int32 × Int32 × Int32 × Int32 × Int32 × Sg × Lg) → Option (Int32 × Sg × Lg)} {v1 : Int32} {v2 : Int32} {v3 : Int32} {v4 : Int32} {v5 : Int32} {w0 : Int32} {sg : Sg} {lg : Lg} (hS : StM MX12_grows s0 l0 sg lg) (v1l : 0 ≤ v1.toInt) (v1h : v1.toInt ≤ 11) (v2l : 0 ≤ v2.toInt) (v2h : v2.toInt ≤ 11) (v3l : 0 ≤ v3.toInt) (v3h : v3.toInt ≤ 1) (v4l : 0 ≤ v4.toInt) (v4h : v4.toInt ≤ 11) (v5l : 0 ≤ v5.toInt) (v5h : v5.toInt ≤ 11) (w0l : 0 ≤ w0.toInt) (w0h : w0.toInt ≤ 1) (xz : zr sg ≤ zr s0 ∧ (v3.toInt = 0 ∨ zr sg < zr s0)) (hr5 : ∀ (v1' : Int32) (v2' : Int32) (v3' : Int32) (v4' : Int32) (sg' : Sg) (lg' : Lg), StM MX12_grows s0 l0 sg' lg' → 0 ≤ v1'.toInt → v1'.toInt ≤ 11 → 0 ≤ v2'.toInt → v2'.toInt ≤ 11 → 0 ≤ v3'.toInt → v3'.toInt ≤ 1 → 0 ≤ v4'.toInt → v4'.toInt ≤ 12 → (zr sg' ≤ zr s0 ∧ (v3'.toInt = 0 ∨ zr sg' < zr s0)) → v4.toInt < v4'.toInt → Ok (PIXM MX12_grows s0 l0 0 1 (fun (y : Int) (r : Sg) => zr r ≤ zr s0 ∧ (y = 0 ∨ zr r < zr s0))) (r5 (v1', v2', v3', v4', sg', lg'))) (hr17 : ∀ (v1' : Int32) (v2' : Int32) (v3' : Int32) (v4' : Int32) (v5' : Int32) (sg' : Sg) (lg' : Lg), StM MX12_grows s0 l0 sg' lg' → 0 ≤ v1'.toInt → v1'.toInt ≤ 11 → 0 ≤ v2'.toInt → v2'.toInt ≤ 11 → 0 ≤ v3'.toInt → v3'.toInt ≤ 1 → 0 ≤ v4'.toInt → v4'.toInt ≤ 11 → 0 ≤ v5'.toInt → v5'.toInt ≤ 12 → (zr sg' ≤ zr s0 ∧ (v3'.toInt = 0 ∨ zr sg' < zr s0)) → (∀ (v1'' : Int32) (v2'' : Int32) (v3'' : Int32) (v4'' : Int32) (sg'' : Sg) (lg'' : Lg), StM MX12_grows s0 l0 sg'' lg'' → 0 ≤ v1''.toInt → v1''.toInt ≤ 11 → 0 ≤ v2''.toInt → v2''.toInt ≤ 11 → 0 ≤ v3''.toInt → v3''.toInt ≤ 1 → 0 ≤ v4''.toInt → v4''.toInt ≤ 12 → (zr sg'' ≤ zr s0 ∧ (v3''.toInt = 0 ∨ zr sg'' < zr s0)) → v4'.toInt < v4''.toInt → Ok (PIXM MX12_grows s0 l0 0 1 (fun (y : Int) (r : Sg) => zr r ≤ zr s0 ∧ (y = 0 ∨ zr r < zr s0))) (r5 (v1'', v2'', v3'', v4'', sg'', lg''))) → v5.toInt < v5'.toInt → Ok (PIXM MX12_grows s0 l0 0 1 (fun (y : Int) (r : Sg) => zr r ≤ zr s0 ∧ (y = 0 ∨ zr r < zr s0))) (r17 (v1', v2', v3', v4', v5', sg', lg'))) : Ok (PIXM MX12_grows s0 l0 0 1 (fun (y : Int) (r : Sg) => zr r ≤ zr s0 ∧ (y = 0 ∨ zr r < zr s0))) (fX12_grows_73 r5 r17 v1 v2 v3 v4 v5 w0 sg lg) := by
  unfold fX12_grows_73
  refine ok_gin (by omega) (by omega) ?_
  refine ok_gin (by omega) (by omega) ?_
  refine ok_ite (fun c1 => ?_) (fun c1 => ?_)
  · have f2 := rdM7 hS.1 (j := v1.toNatClampNeg)
    have f3 := rdM7 hS.1 (j := v2.toNatClampNeg)
    replace c1 := i_eq.mp c1
    exact sX12_grows_144 hS (by omega) (by omega) (by omega) (by omega) (by omega) (by omega) (by omega) (by omega) (by omega) (by omega) (by omega) (by omega) (by omega) hr5 hr17
  · have f4 := rdM7 hS.1 (j := v1.toNatClampNeg)
    have f5 := rdM7 hS.1 (j := v2.toNatClampNeg)
    replace c1 := i_ne.mp c1
    refine bnd3_pxM (sX12_counts (v1 := v4) hS.1) (fun y4 qy4 zy4 xy4 => ?_)
    replace xy4 : y4.toInt = 0 ∨ (0 ≤ v4.toInt ∧ v4.toInt ≤ 11) := xy4
    refine ok_ite (fun c6 => ?_) (fun c6 => ?_)
    · have k7 : (0 : Int32).toInt = 0 := by decide
      replace c6 := i_eq.mp c6
      exact sX12_grows_144 hS (by omega) (by omega) (by omega) (by omega) (by omega) (by omega) (by omega) (by omega) (by omega) (by omega) (by omega) (by omega) (by omega) hr5 hr17
    · have k8 : (0 : Int32).toInt = 0 := by decide
      replace c6 := i_ne.mp c6
      refine bnd3_pxM (sX12_counts (v1 := v5) hS.1) (fun y9 qy9 zy9 xy9 => ?_)
      replace xy9 : y9.toInt = 0 ∨ (0 ≤ v5.toInt ∧ v5.toInt ≤ 11) := xy9
      refine ok_ite (fun c9 => ?_) (fun c9 => ?_)
      · replace c9 := i_eq.mp c9
        exact sX12_grows_144 hS (by omega) (by omega) (by omega) (by omega) (by omega) (by omega) (by omega) (by omega) (by omega) (by omega) (by omega) (by omega) (by omega) hr5 hr17
      · replace c9 := i_ne.mp c9
        refine ok_gin (by omega) (by omega) ?_
        refine ok_gin (by omega) (by omega) ?_
        refine ok_ite (fun c10 => ?_) (fun c10 => ?_)
        · have f11 := rdM7 hS.1 (j := v4.toNatClampNeg)
          replace c10 := i_eq.mp c10
          refine ok_gin (by omega) (by omega) ?_
          refine ok_gin (by omega) (by omega) ?_
          refine ok_ite (fun c12 => ?_) (fun c12 => ?_)
          · have f13 := rdM7 hS.1 (j := v5.toNatClampNeg)
            replace c12 := i_eq.mp c12
            have k14 : (1 : Int32).toInt = 1 := by decide
            exact sX12_grows_145 hS (by omega) (by omega) (by omega) (by omega) (by omega) (by omega) (by omega) (by omega) (by omega) (by omega) (by omega) (by omega) (by omega) (by omega) (by omega) hr5 hr17
          · have f15 := rdM7 hS.1 (j := v5.toNatClampNeg)
            replace c12 := i_ne.mp c12
            exact sX12_grows_144 hS (by omega) (by omega) (by omega) (by omega) (by omega) (by omega) (by omega) (by omega) (by omega) (by omega) (by omega) (by omega) (by omega) hr5 hr17
        · have f16 := rdM7 hS.1 (j := v4.toNatClampNeg)
          replace c10 := i_ne.mp c10
          exact sX12_grows_144 hS (by omega) (by omega) (by omega) (by omega) (by omega) (by omega) (by omega) (by omega) (by omega) (by omega) (by omega) (by omega) (by omega) hr5 hr17
set_option maxHeartbeats 4000000 in
theorem sX12_grows_72 {s0 : Sg} {l0 : Lg} {r5 : (Int32 × Int32 × Int32 × Int32 × Sg × Lg) → Option (Int32 × Sg × Lg)} {r17 : (Int32 × Int32 × Int32 × Int32 × Int32 × Sg × Lg) → Option (Int32 × Sg × Lg)} {v1 : Int32} {v2 : Int32} {v3 : Int32} {v4 : Int32} {v5 : Int32} {sg : Sg} {lg : Lg} (hS : StM MX12_grows s0 l0 sg lg) (v1l : 0 ≤ v1.toInt) (v1h : v1.toInt ≤ 11) (v2l : 0 ≤ v2.toInt) (v2h : v2.toInt ≤ 11) (v3l : 0 ≤ v3.toInt) (v3h : v3.toInt ≤ 1) (v4l : 0 ≤ v4.toInt) (v4h : v4.toInt ≤ 11) (v5l : 0 ≤ v5.toInt) (v5h : v5.toInt ≤ 11) (xz : zr sg ≤ zr s0 ∧ (v3.toInt = 0 ∨ zr sg < zr s0)) (hr5 : ∀ (v1' : Int32) (v2' : Int32) (v3' : Int32) (v4' : Int32) (sg' : Sg) (lg' : Lg), StM MX12_grows s0 l0 sg' lg' → 0 ≤ v1'.toInt → v1'.toInt ≤ 11 → 0 ≤ v2'.toInt → v2'.toInt ≤ 11 → 0 ≤ v3'.toInt → v3'.toInt ≤ 1 → 0 ≤ v4'.toInt → v4'.toInt ≤ 12 → (zr sg' ≤ zr s0 ∧ (v3'.toInt = 0 ∨ zr sg' < zr s0)) → v4.toInt < v4'.toInt → Ok (PIXM MX12_grows s0 l0 0 1 (fun (y : Int) (r : Sg) => zr r ≤ zr s0 ∧ (y = 0 ∨ zr r < zr s0))) (r5 (v1', v2', v3', v4', sg', lg'))) (hr17 : ∀ (v1' : Int32) (v2' : Int32) (v3' : Int32) (v4' : Int32) (v5' : Int32) (sg' : Sg) (lg' : Lg), StM MX12_grows s0 l0 sg' lg' → 0 ≤ v1'.toInt → v1'.toInt ≤ 11 → 0 ≤ v2'.toInt → v2'.toInt ≤ 11 → 0 ≤ v3'.toInt → v3'.toInt ≤ 1 → 0 ≤ v4'.toInt → v4'.toInt ≤ 11 → 0 ≤ v5'.toInt → v5'.toInt ≤ 12 → (zr sg' ≤ zr s0 ∧ (v3'.toInt = 0 ∨ zr sg' < zr s0)) → (∀ (v1'' : Int32) (v2'' : Int32) (v3'' : Int32) (v4'' : Int32) (sg'' : Sg) (lg'' : Lg), StM MX12_grows s0 l0 sg'' lg'' → 0 ≤ v1''.toInt → v1''.toInt ≤ 11 → 0 ≤ v2''.toInt → v2''.toInt ≤ 11 → 0 ≤ v3''.toInt → v3''.toInt ≤ 1 → 0 ≤ v4''.toInt → v4''.toInt ≤ 12 → (zr sg'' ≤ zr s0 ∧ (v3''.toInt = 0 ∨ zr sg'' < zr s0)) → v4'.toInt < v4''.toInt → Ok (PIXM MX12_grows s0 l0 0 1 (fun (y : Int) (r : Sg) => zr r ≤ zr s0 ∧ (y = 0 ∨ zr r < zr s0))) (r5 (v1'', v2'', v3'', v4'', sg'', lg''))) → v5.toInt < v5'.toInt → Ok (PIXM MX12_grows s0 l0 0 1 (fun (y : Int) (r : Sg) => zr r ≤ zr s0 ∧ (y = 0 ∨ zr r < zr s0))) (r17 (v1', v2', v3', v4', v5', sg', lg'))) : Ok (PIXM MX12_grows s0 l0 0 1 (fun (y : Int) (r : Sg) => zr r ≤ zr s0 ∧ (y = 0 ∨ zr r < zr s0))) (fX12_grows_72 r5 r17 v1 v2 v3 v4 v5 sg lg) := by
  unfold fX12_grows_72
  have k1 : (0 : Int32).toInt = 0 := by decide
  exact sX12_grows_73 hS (by omega) (by omega) (by omega) (by omega) (by omega) (by omega) (by omega) (by omega) (by omega) (by omega) (by omega) (by omega) (by omega) hr5 hr17
set_option maxHeartbeats 4000000 in
theorem sX12_grows_68 {s0 : Sg} {l0 : Lg} {r5 : (Int32 × Int32 × Int32 × Int32 × Sg × Lg) → Option (Int32 × Sg × Lg)} {r17 : (Int32 × Int32 × Int32 × Int32 × Int32 × Sg × Lg) → Option (Int32 × Sg × Lg)} {v1 : Int32} {v2 : Int32} {v3 : Int32} {v4 : Int32} {v5 : Int32} {sg : Sg} {lg : Lg} (hS : StM MX12_grows s0 l0 sg lg) (v1l : 0 ≤ v1.toInt) (v1h : v1.toInt ≤ 11) (v2l : 0 ≤ v2.toInt) (v2h : v2.toInt ≤ 11) (v3l : 0 ≤ v3.toInt) (v3h : v3.toInt ≤ 1) (v4l : 0 ≤ v4.toInt) (v4h : v4.toInt ≤ 11) (v5l : 0 ≤ v5.toInt) (v5h : v5.toInt ≤ 11) (xz : zr sg ≤ zr s0 ∧ (v3.toInt = 0 ∨ zr sg < zr s0)) (hr5 : ∀ (v1' : Int32) (v2' : Int32) (v3' : Int32) (v4' : Int32) (sg' : Sg) (lg' : Lg), StM MX12_grows s0 l0 sg' lg' → 0 ≤ v1'.toInt → v1'.toInt ≤ 11 → 0 ≤ v2'.toInt → v2'.toInt ≤ 11 → 0 ≤ v3'.toInt → v3'.toInt ≤ 1 → 0 ≤ v4'.toInt → v4'.toInt ≤ 12 → (zr sg' ≤ zr s0 ∧ (v3'.toInt = 0 ∨ zr sg' < zr s0)) → v4.toInt < v4'.toInt → Ok (PIXM MX12_grows s0 l0 0 1 (fun (y : Int) (r : Sg) => zr r ≤ zr s0 ∧ (y = 0 ∨ zr r < zr s0))) (r5 (v1', v2', v3', v4', sg', lg'))) (hr17 : ∀ (v1' : Int32) (v2' : Int32) (v3' : Int32) (v4' : Int32) (v5' : Int32) (sg' : Sg) (lg' : Lg), StM MX12_grows s0 l0 sg' lg' → 0 ≤ v1'.toInt → v1'.toInt ≤ 11 → 0 ≤ v2'.toInt → v2'.toInt ≤ 11 → 0 ≤ v3'.toInt → v3'.toInt ≤ 1 → 0 ≤ v4'.toInt → v4'.toInt ≤ 11 → 0 ≤ v5'.toInt → v5'.toInt ≤ 12 → (zr sg' ≤ zr s0 ∧ (v3'.toInt = 0 ∨ zr sg' < zr s0)) → (∀ (v1'' : Int32) (v2'' : Int32) (v3'' : Int32) (v4'' : Int32) (sg'' : Sg) (lg'' : Lg), StM MX12_grows s0 l0 sg'' lg'' → 0 ≤ v1''.toInt → v1''.toInt ≤ 11 → 0 ≤ v2''.toInt → v2''.toInt ≤ 11 → 0 ≤ v3''.toInt → v3''.toInt ≤ 1 → 0 ≤ v4''.toInt → v4''.toInt ≤ 12 → (zr sg'' ≤ zr s0 ∧ (v3''.toInt = 0 ∨ zr sg'' < zr s0)) → v4'.toInt < v4''.toInt → Ok (PIXM MX12_grows s0 l0 0 1 (fun (y : Int) (r : Sg) => zr r ≤ zr s0 ∧ (y = 0 ∨ zr r < zr s0))) (r5 (v1'', v2'', v3'', v4'', sg'', lg''))) → v5.toInt < v5'.toInt → Ok (PIXM MX12_grows s0 l0 0 1 (fun (y : Int) (r : Sg) => zr r ≤ zr s0 ∧ (y = 0 ∨ zr r < zr s0))) (r17 (v1', v2', v3', v4', v5', sg', lg'))) : Ok (PIXM MX12_grows s0 l0 0 1 (fun (y : Int) (r : Sg) => zr r ≤ zr s0 ∧ (y = 0 ∨ zr r < zr s0))) (fX12_grows_68 r5 r17 v1 v2 v3 v4 v5 sg lg) := by
  unfold fX12_grows_68
  have k1 : (1 : Int32).toInt = 1 := by decide
  exact sX12_grows_73 hS (by omega) (by omega) (by omega) (by omega) (by omega) (by omega) (by omega) (by omega) (by omega) (by omega) (by omega) (by omega) (by omega) hr5 hr17
set_option maxHeartbeats 4000000 in
theorem sX12_grows_47 {s0 : Sg} {l0 : Lg} {r5 : (Int32 × Int32 × Int32 × Int32 × Sg × Lg) → Option (Int32 × Sg × Lg)} {r17 : (Int32 × Int32 × Int32 × Int32 × Int32 × Sg × Lg) → Option (Int32 × Sg × Lg)} {v1 : Int32} {v2 : Int32} {v3 : Int32} {v4 : Int32} {v5 : Int32} {sg : Sg} {lg : Lg} (hS : StM MX12_grows s0 l0 sg lg) (v1l : 0 ≤ v1.toInt) (v1h : v1.toInt ≤ 11) (v2l : 0 ≤ v2.toInt) (v2h : v2.toInt ≤ 11) (v3l : 0 ≤ v3.toInt) (v3h : v3.toInt ≤ 1) (v4l : 0 ≤ v4.toInt) (v4h : v4.toInt ≤ 11) (v5l : 0 ≤ v5.toInt) (v5h : v5.toInt ≤ 11) (xz : zr sg ≤ zr s0 ∧ (v3.toInt = 0 ∨ zr sg < zr s0)) (hr5 : ∀ (v1' : Int32) (v2' : Int32) (v3' : Int32) (v4' : Int32) (sg' : Sg) (lg' : Lg), StM MX12_grows s0 l0 sg' lg' → 0 ≤ v1'.toInt → v1'.toInt ≤ 11 → 0 ≤ v2'.toInt → v2'.toInt ≤ 11 → 0 ≤ v3'.toInt → v3'.toInt ≤ 1 → 0 ≤ v4'.toInt → v4'.toInt ≤ 12 → (zr sg' ≤ zr s0 ∧ (v3'.toInt = 0 ∨ zr sg' < zr s0)) → v4.toInt < v4'.toInt → Ok (PIXM MX12_grows s0 l0 0 1 (fun (y : Int) (r : Sg) => zr r ≤ zr s0 ∧ (y = 0 ∨ zr r < zr s0))) (r5 (v1', v2', v3', v4', sg', lg'))) (hr17 : ∀ (v1' : Int32) (v2' : Int32) (v3' : Int32) (v4' : Int32) (v5' : Int32) (sg' : Sg) (lg' : Lg), StM MX12_grows s0 l0 sg' lg' → 0 ≤ v1'.toInt → v1'.toInt ≤ 11 → 0 ≤ v2'.toInt → v2'.toInt ≤ 11 → 0 ≤ v3'.toInt → v3'.toInt ≤ 1 → 0 ≤ v4'.toInt → v4'.toInt ≤ 11 → 0 ≤ v5'.toInt → v5'.toInt ≤ 12 → (zr sg' ≤ zr s0 ∧ (v3'.toInt = 0 ∨ zr sg' < zr s0)) → (∀ (v1'' : Int32) (v2'' : Int32) (v3'' : Int32) (v4'' : Int32) (sg'' : Sg) (lg'' : Lg), StM MX12_grows s0 l0 sg'' lg'' → 0 ≤ v1''.toInt → v1''.toInt ≤ 11 → 0 ≤ v2''.toInt → v2''.toInt ≤ 11 → 0 ≤ v3''.toInt → v3''.toInt ≤ 1 → 0 ≤ v4''.toInt → v4''.toInt ≤ 12 → (zr sg'' ≤ zr s0 ∧ (v3''.toInt = 0 ∨ zr sg'' < zr s0)) → v4'.toInt < v4''.toInt → Ok (PIXM MX12_grows s0 l0 0 1 (fun (y : Int) (r : Sg) => zr r ≤ zr s0 ∧ (y = 0 ∨ zr r < zr s0))) (r5 (v1'', v2'', v3'', v4'', sg'', lg''))) → v5.toInt < v5'.toInt → Ok (PIXM MX12_grows s0 l0 0 1 (fun (y : Int) (r : Sg) => zr r ≤ zr s0 ∧ (y = 0 ∨ zr r < zr s0))) (r17 (v1', v2', v3', v4', v5', sg', lg'))) : Ok (PIXM MX12_grows s0 l0 0 1 (fun (y : Int) (r : Sg) => zr r ≤ zr s0 ∧ (y = 0 ∨ zr r < zr s0))) (fX12_grows_47 r5 r17 v1 v2 v3 v4 v5 sg lg) := by
  unfold fX12_grows_47
  refine ok_ite (fun c1 => ?_) (fun c1 => ?_)
  · replace c1 := i_eq.mp c1
    have k2 : (12 : Int32).toInt = 12 := by decide
    have f3 := mul_l (a := (12 : Int32)) (b := v4) 12 (by decide) (by omega) (by omega)
    have f4 := add_i (a := ((12 : Int32) * v4)) (b := v1) (by omega) (by omega)
    refine ok_lt (fun x2 ex2 => ?_)
    replace ex2 := congrArg Int32.toInt ex2
    refine ok_gin (by omega) (by omega) ?_
    refine ok_ite (fun c5 => ?_) (fun c5 => ?_)
    · have f6 := rdM6 hS.1 (j := x2.toNatClampNeg)
      have k7 : (0 : Int32).toInt = 0 := by decide
      replace c5 := i_eq.mp c5
      exact sX12_grows_72 hS (by omega) (by omega) (by omega) (by omega) (by omega) (by omega) (by omega) (by omega) (by omega) (by omega) (by omega) hr5 hr17
    · have f8 := rdM6 hS.1 (j := x2.toNatClampNeg)
      have k9 : (0 : Int32).toInt = 0 := by decide
      replace c5 := i_ne.mp c5
      exact sX12_grows_68 hS (by omega) (by omega) (by omega) (by omega) (by omega) (by omega) (by omega) (by omega) (by omega) (by omega) (by omega) hr5 hr17
  · replace c1 := i_ne.mp c1
    exact sX12_grows_72 hS (by omega) (by omega) (by omega) (by omega) (by omega) (by omega) (by omega) (by omega) (by omega) (by omega) (by omega) hr5 hr17
set_option maxHeartbeats 4000000 in
theorem sX12_grows_17 {s0 : Sg} {l0 : Lg} {r5 : (Int32 × Int32 × Int32 × Int32 × Sg × Lg) → Option (Int32 × Sg × Lg)} {r17 : (Int32 × Int32 × Int32 × Int32 × Int32 × Sg × Lg) → Option (Int32 × Sg × Lg)} {v1 : Int32} {v2 : Int32} {v3 : Int32} {v4 : Int32} {v5 : Int32} {sg : Sg} {lg : Lg} (hS : StM MX12_grows s0 l0 sg lg) (v1l : 0 ≤ v1.toInt) (v1h : v1.toInt ≤ 11) (v2l : 0 ≤ v2.toInt) (v2h : v2.toInt ≤ 11) (v3l : 0 ≤ v3.toInt) (v3h : v3.toInt ≤ 1) (v4l : 0 ≤ v4.toInt) (v4h : v4.toInt ≤ 11) (v5l : 0 ≤ v5.toInt) (v5h : v5.toInt ≤ 12) (xz : zr sg ≤ zr s0 ∧ (v3.toInt = 0 ∨ zr sg < zr s0)) (hr5 : ∀ (v1' : Int32) (v2' : Int32) (v3' : Int32) (v4' : Int32) (sg' : Sg) (lg' : Lg), StM MX12_grows s0 l0 sg' lg' → 0 ≤ v1'.toInt → v1'.toInt ≤ 11 → 0 ≤ v2'.toInt → v2'.toInt ≤ 11 → 0 ≤ v3'.toInt → v3'.toInt ≤ 1 → 0 ≤ v4'.toInt → v4'.toInt ≤ 12 → (zr sg' ≤ zr s0 ∧ (v3'.toInt = 0 ∨ zr sg' < zr s0)) → v4.toInt < v4'.toInt → Ok (PIXM MX12_grows s0 l0 0 1 (fun (y : Int) (r : Sg) => zr r ≤ zr s0 ∧ (y = 0 ∨ zr r < zr s0))) (r5 (v1', v2', v3', v4', sg', lg'))) (hr17 : ∀ (v1' : Int32) (v2' : Int32) (v3' : Int32) (v4' : Int32) (v5' : Int32) (sg' : Sg) (lg' : Lg), StM MX12_grows s0 l0 sg' lg' → 0 ≤ v1'.toInt → v1'.toInt ≤ 11 → 0 ≤ v2'.toInt → v2'.toInt ≤ 11 → 0 ≤ v3'.toInt → v3'.toInt ≤ 1 → 0 ≤ v4'.toInt → v4'.toInt ≤ 11 → 0 ≤ v5'.toInt → v5'.toInt ≤ 12 → (zr sg' ≤ zr s0 ∧ (v3'.toInt = 0 ∨ zr sg' < zr s0)) → (∀ (v1'' : Int32) (v2'' : Int32) (v3'' : Int32) (v4'' : Int32) (sg'' : Sg) (lg'' : Lg), StM MX12_grows s0 l0 sg'' lg'' → 0 ≤ v1''.toInt → v1''.toInt ≤ 11 → 0 ≤ v2''.toInt → v2''.toInt ≤ 11 → 0 ≤ v3''.toInt → v3''.toInt ≤ 1 → 0 ≤ v4''.toInt → v4''.toInt ≤ 12 → (zr sg'' ≤ zr s0 ∧ (v3''.toInt = 0 ∨ zr sg'' < zr s0)) → v4'.toInt < v4''.toInt → Ok (PIXM MX12_grows s0 l0 0 1 (fun (y : Int) (r : Sg) => zr r ≤ zr s0 ∧ (y = 0 ∨ zr r < zr s0))) (r5 (v1'', v2'', v3'', v4'', sg'', lg''))) → v5.toInt < v5'.toInt → Ok (PIXM MX12_grows s0 l0 0 1 (fun (y : Int) (r : Sg) => zr r ≤ zr s0 ∧ (y = 0 ∨ zr r < zr s0))) (r17 (v1', v2', v3', v4', v5', sg', lg'))) : Ok (PIXM MX12_grows s0 l0 0 1 (fun (y : Int) (r : Sg) => zr r ≤ zr s0 ∧ (y = 0 ∨ zr r < zr s0))) (fX12_grows_17 r5 r17 v1 v2 v3 v4 v5 sg lg) := by
  unfold fX12_grows_17
  refine bnd3_puM (sX12_hens  hS.1) (fun y1 qy1 zy1 => ?_)
  refine ok_ite (fun c1 => ?_) (fun c1 => ?_)
  · replace c1 := i_le.mp c1
    refine ok_lt (fun x6 ex6 => ?_)
    replace ex6 : x6.toInt = v4.toInt + 1 := by rw [ex6]; exact add_c 1 (by decide) (by omega) (by omega)
    exact hr5 v1 v2 v3 x6 sg lg hS (by omega) (by omega) (by omega) (by omega) (by omega) (by omega) (by omega) (by omega) (by omega) (by omega)
  · replace c1 := i_nle.mp c1
    refine ok_ite (fun c2 => ?_) (fun c2 => ?_)
    · replace c2 := i_eq.mp c2
      have k3 : (12 : Int32).toInt = 12 := by decide
      have f4 := mul_l (a := (12 : Int32)) (b := v2) 12 (by decide) (by omega) (by omega)
      have f5 := add_i (a := ((12 : Int32) * v2)) (b := v5) (by omega) (by omega)
      refine ok_lt (fun x8 ex8 => ?_)
      replace ex8 := congrArg Int32.toInt ex8
      refine ok_gin (by omega) (by omega) ?_
      refine ok_ite (fun c6 => ?_) (fun c6 => ?_)
      · have f7 := rdM6 hS.1 (j := x8.toNatClampNeg)
        have k8 : (0 : Int32).toInt = 0 := by decide
        replace c6 := i_eq.mp c6
        exact sX12_grows_47 hS (by omega) (by omega) (by omega) (by omega) (by omega) (by omega) (by omega) (by omega) (by omega) (by omega) (by omega) hr5 hr17
      · have f9 := rdM6 hS.1 (j := x8.toNatClampNeg)
        have k10 : (0 : Int32).toInt = 0 := by decide
        replace c6 := i_ne.mp c6
        exact sX12_grows_68 hS (by omega) (by omega) (by omega) (by omega) (by omega) (by omega) (by omega) (by omega) (by omega) (by omega) (by omega) hr5 hr17
    · replace c2 := i_ne.mp c2
      exact sX12_grows_47 hS (by omega) (by omega) (by omega) (by omega) (by omega) (by omega) (by omega) (by omega) (by omega) (by omega) (by omega) hr5 hr17
set_option maxHeartbeats 4000000 in
theorem sLX12_grows_17 {s0 : Sg} {l0 : Lg} {r5 : (Int32 × Int32 × Int32 × Int32 × Sg × Lg) → Option (Int32 × Sg × Lg)} {v1 : Int32} {v2 : Int32} {v3 : Int32} {v4 : Int32} {v5 : Int32} {sg : Sg} {lg : Lg} (hS : StM MX12_grows s0 l0 sg lg) (v1l : 0 ≤ v1.toInt) (v1h : v1.toInt ≤ 11) (v2l : 0 ≤ v2.toInt) (v2h : v2.toInt ≤ 11) (v3l : 0 ≤ v3.toInt) (v3h : v3.toInt ≤ 1) (v4l : 0 ≤ v4.toInt) (v4h : v4.toInt ≤ 11) (v5l : 0 ≤ v5.toInt) (v5h : v5.toInt ≤ 12) (xz : (zr sg ≤ zr s0 ∧ (v3.toInt = 0 ∨ zr sg < zr s0))) (hr5 : ∀ (v1' : Int32) (v2' : Int32) (v3' : Int32) (v4' : Int32) (sg' : Sg) (lg' : Lg), StM MX12_grows s0 l0 sg' lg' → 0 ≤ v1'.toInt → v1'.toInt ≤ 11 → 0 ≤ v2'.toInt → v2'.toInt ≤ 11 → 0 ≤ v3'.toInt → v3'.toInt ≤ 1 → 0 ≤ v4'.toInt → v4'.toInt ≤ 12 → (zr sg' ≤ zr s0 ∧ (v3'.toInt = 0 ∨ zr sg' < zr s0)) → v4.toInt < v4'.toInt → Ok (PIXM MX12_grows s0 l0 0 1 (fun (y : Int) (r : Sg) => zr r ≤ zr s0 ∧ (y = 0 ∨ zr r < zr s0))) (r5 (v1', v2', v3', v4', sg', lg'))) : Ok (PIXM MX12_grows s0 l0 0 1 (fun (y : Int) (r : Sg) => zr r ≤ zr s0 ∧ (y = 0 ∨ zr r < zr s0))) (LX12_grows_17 r5 (v1, v2, v3, v4, v5, sg, lg)) := by
  unfold LX12_grows_17
  refine ok_loop (I := fun (z : Int32 × Int32 × Int32 × Int32 × Int32 × Sg × Lg) => StM MX12_grows s0 l0 z.2.2.2.2.2.1 z.2.2.2.2.2.2 ∧ 0 ≤ z.1.toInt ∧ z.1.toInt ≤ 11 ∧ 0 ≤ z.2.1.toInt ∧ z.2.1.toInt ≤ 11 ∧ 0 ≤ z.2.2.1.toInt ∧ z.2.2.1.toInt ≤ 1 ∧ 0 ≤ z.2.2.2.1.toInt ∧ z.2.2.2.1.toInt ≤ 11 ∧ 0 ≤ z.2.2.2.2.1.toInt ∧ z.2.2.2.2.1.toInt ≤ 12 ∧ (zr z.2.2.2.2.2.1 ≤ zr s0 ∧ (z.2.2.1.toInt = 0 ∨ zr z.2.2.2.2.2.1 < zr s0)) ∧ (∀ (v1' : Int32) (v2' : Int32) (v3' : Int32) (v4' : Int32) (sg' : Sg) (lg' : Lg), StM MX12_grows s0 l0 sg' lg' → 0 ≤ v1'.toInt → v1'.toInt ≤ 11 → 0 ≤ v2'.toInt → v2'.toInt ≤ 11 → 0 ≤ v3'.toInt → v3'.toInt ≤ 1 → 0 ≤ v4'.toInt → v4'.toInt ≤ 12 → (zr sg' ≤ zr s0 ∧ (v3'.toInt = 0 ∨ zr sg' < zr s0)) → z.2.2.2.1.toInt < v4'.toInt → Ok (PIXM MX12_grows s0 l0 0 1 (fun (y : Int) (r : Sg) => zr r ≤ zr s0 ∧ (y = 0 ∨ zr r < zr s0))) (r5 (v1', v2', v3', v4', sg', lg')))) (m := fun (z : Int32 × Int32 × Int32 × Int32 × Int32 × Sg × Lg) => (13 - z.2.2.2.2.1.toInt).toNat) _ ?_ ?_ _ ?_
  · intro z hz
    obtain ⟨h0, h1, h2, h3, h4, h5, h6, h7, h8, h9, h10, h11, h12⟩ := hz
    show (13 - z.2.2.2.2.1.toInt).toNat < 10000
    omega
  · intro rec z hz hrec
    obtain ⟨v1, v2, v3, v4, v5, sg, lg⟩ := z
    replace hz : StM MX12_grows s0 l0 sg lg ∧ 0 ≤ v1.toInt ∧ v1.toInt ≤ 11 ∧ 0 ≤ v2.toInt ∧ v2.toInt ≤ 11 ∧ 0 ≤ v3.toInt ∧ v3.toInt ≤ 1 ∧ 0 ≤ v4.toInt ∧ v4.toInt ≤ 11 ∧ 0 ≤ v5.toInt ∧ v5.toInt ≤ 12 ∧ (zr sg ≤ zr s0 ∧ (v3.toInt = 0 ∨ zr sg < zr s0)) ∧ (∀ (v1' : Int32) (v2' : Int32) (v3' : Int32) (v4' : Int32) (sg' : Sg) (lg' : Lg), StM MX12_grows s0 l0 sg' lg' → 0 ≤ v1'.toInt → v1'.toInt ≤ 11 → 0 ≤ v2'.toInt → v2'.toInt ≤ 11 → 0 ≤ v3'.toInt → v3'.toInt ≤ 1 → 0 ≤ v4'.toInt → v4'.toInt ≤ 12 → (zr sg' ≤ zr s0 ∧ (v3'.toInt = 0 ∨ zr sg' < zr s0)) → v4.toInt < v4'.toInt → Ok (PIXM MX12_grows s0 l0 0 1 (fun (y : Int) (r : Sg) => zr r ≤ zr s0 ∧ (y = 0 ∨ zr r < zr s0))) (r5 (v1', v2', v3', v4', sg', lg'))) := hz
    obtain ⟨h0, h1, h2, h3, h4, h5, h6, h7, h8, h9, h10, h11, h12⟩ := hz
    show Ok (PIXM MX12_grows s0 l0 0 1 (fun (y : Int) (r : Sg) => zr r ≤ zr s0 ∧ (y = 0 ∨ zr r < zr s0))) (fX12_grows_17 r5 rec v1 v2 v3 v4 v5 sg lg)
    exact sX12_grows_17 h0 h1 h2 h3 h4 h5 h6 h7 h8 h9 h10 h11 h12 (fun v1' v2' v3' v4' v5' sg' lg' g0 g1 g2 g3 g4 g5 g6 g7 g8 g9 g10 g11 g12 g13 => hrec (v1', v2', v3', v4', v5', sg', lg') ⟨g0, g1, g2, g3, g4, g5, g6, g7, g8, g9, g10, g11, g12⟩ (show (13 - v5'.toInt).toNat < (13 - v5.toInt).toNat by omega))
  · exact ⟨hS, v1l, v1h, v2l, v2h, v3l, v3h, v4l, v4h, v5l, v5h, xz, hr5⟩
