set_option maxHeartbeats 4000000 in
theorem sX11_move {v1 : Int32} {v2 : Int32} {sg : Sg} (hI : IC sg) : Ok (PLC MX11_move sg) (fX11_move v1 v2 sg) := by
  have hS : StC MX11_move sg sg := StC.rf hI
  unfold fX11_move
  refine bnd2_pxC (sX5_isPlace (v1 := v1) hS.1) (fun y1 qy1 zy1 xy1 => ?_)
  replace xy1 : y1.toInt = 0 ∨ (0 ≤ v1.toInt ∧ v1.toInt ≤ 11) := xy1
  refine ok_ite (fun c1 => ?_) (fun c1 => ?_)
  · have k2 : (0 : Int32).toInt = 0 := by decide
    replace c1 := i_eq.mp c1
    exact ok_some (mkPLC hS)
  · have k3 : (0 : Int32).toInt = 0 := by decide
    replace c1 := i_ne.mp c1
    refine bnd2_pxC (sX5_isPlace (v1 := v2) hS.1) (fun y5 qy5 zy5 xy5 => ?_)
    replace xy5 : y5.toInt = 0 ∨ (0 ≤ v2.toInt ∧ v2.toInt ≤ 11) := xy5
    refine ok_ite (fun c4 => ?_) (fun c4 => ?_)
    · replace c4 := i_eq.mp c4
      exact ok_some (mkPLC hS)
    · replace c4 := i_ne.mp c4
      refine bnd1_pvC (sX11_shift_c31 (v1 := v1) (v2 := v2) hS.1 (by omega) (by omega) (by omega) (by omega)) (fun sg9 hsg9 => ?_)
      have hS5 := hS.tr hsg9 (by decide)
      exact ok_some (mkPLC hS5)
set_option maxHeartbeats 4000000 in
theorem sX7_upsetWeight_18 {r4 : (Int64 × Int32 × Sg) → Option (Int64 × Sg)} {r18 : (Int64 × Int32 × Int32 × Sg) → Option (Int64 × Sg)} {v1 : Int64} {v3 : Int32} {v4 : Int32} {sg : Sg} (hI : IC sg) (v3l : 1 ≤ v3.toInt) (v3h : v3.toInt ≤ 11) (v4l : 0 ≤ v4.toInt) (v4h : v4.toInt ≤ 11) (hr4 : ∀ (v1' : Int64) (v3' : Int32), 1 ≤ v3'.toInt → v3'.toInt ≤ 12 → v3.toInt < v3'.toInt → Ok (PUlC sg) (r4 (v1', v3', sg))) (hr18 : ∀ (v1' : Int64) (v3' : Int32) (v4' : Int32), 1 ≤ v3'.toInt → v3'.toInt ≤ 11 → 0 ≤ v4'.toInt → v4'.toInt ≤ 11 → (∀ (v1'' : Int64) (v3'' : Int32), 1 ≤ v3''.toInt → v3''.toInt ≤ 12 → v3'.toInt < v3''.toInt → Ok (PUlC sg) (r4 (v1'', v3'', sg))) → v4.toInt < v4'.toInt → Ok (PUlC sg) (r18 (v1', v3', v4', sg))) : Ok (PUlC sg) (fX7_upsetWeight_18 r4 r18 v1 v3 v4 sg) := by
  unfold fX7_upsetWeight_18
  refine ok_ite (fun c1 => ?_) (fun c1 => ?_)
  · replace c1 := i_le.mp c1
    refine ok_lt (fun x2 ex2 => ?_)
    replace ex2 : x2.toInt = v3.toInt + 1 := by rw [ex2]; exact add_c 1 (by decide) (by omega) (by omega)
    exact hr4 v1 x2 (by omega) (by omega) (by omega)
  · replace c1 := i_nle.mp c1
    refine ok_gin (by omega) (by omega) ?_
    refine ok_gin (by omega) (by omega) ?_
    have f2 := rdC32 hI.1 (j := v3.toNatClampNeg)
    have f3 := rdC32 hI.1 (j := v4.toNatClampNeg)
    refine bnd2_puC (sX8_peckOf (v1 := (sg 32 v3.toNatClampNeg)) (v2 := (sg 32 v4.toNatClampNeg)) hI (by omega) (by omega) (by omega) (by omega)) (fun y5 qy5 zy5 => ?_)
    refine ok_lt (fun x8 ex8 => ?_)
    refine ok_lt (fun x9 ex9 => ?_)
    replace ex9 : x9.toInt = v4.toInt + 1 := by rw [ex9]; exact add_c 1 (by decide) (by omega) (by omega)
    exact hr18 x8 v3 x9 (by omega) (by omega) (by omega) (by omega) hr4 (by omega)
set_option maxHeartbeats 4000000 in
theorem sLX7_upsetWeight_18 {r4 : (Int64 × Int32 × Sg) → Option (Int64 × Sg)} {v1 : Int64} {v3 : Int32} {v4 : Int32} {sg : Sg} (hI : IC sg) (v3l : 1 ≤ v3.toInt) (v3h : v3.toInt ≤ 11) (v4l : 0 ≤ v4.toInt) (v4h : v4.toInt ≤ 11) (hr4 : ∀ (v1' : Int64) (v3' : Int32), 1 ≤ v3'.toInt → v3'.toInt ≤ 12 → v3.toInt < v3'.toInt → Ok (PUlC sg) (r4 (v1', v3', sg))) : Ok (PUlC sg) (LX7_upsetWeight_18 r4 (v1, v3, v4, sg)) := by
  unfold LX7_upsetWeight_18
  refine ok_loop (I := fun (z : Int64 × Int32 × Int32 × Sg) => z.2.2.2 = sg ∧ 1 ≤ z.2.1.toInt ∧ z.2.1.toInt ≤ 11 ∧ 0 ≤ z.2.2.1.toInt ∧ z.2.2.1.toInt ≤ 11 ∧ (∀ (v1' : Int64) (v3' : Int32), 1 ≤ v3'.toInt → v3'.toInt ≤ 12 → z.2.1.toInt < v3'.toInt → Ok (PUlC sg) (r4 (v1', v3', sg)))) (m := fun (z : Int64 × Int32 × Int32 × Sg) => (12 - z.2.2.1.toInt).toNat) _ ?_ ?_ _ ?_
  · intro z hz
    obtain ⟨h0, h1, h2, h3, h4, h5⟩ := hz
    show (12 - z.2.2.1.toInt).toNat < 10000
    omega
  · intro rec z hz hrec
    obtain ⟨v1, v3, v4, sg1⟩ := z
    replace hz : sg1 = sg ∧ 1 ≤ v3.toInt ∧ v3.toInt ≤ 11 ∧ 0 ≤ v4.toInt ∧ v4.toInt ≤ 11 ∧ (∀ (v1' : Int64) (v3' : Int32), 1 ≤ v3'.toInt → v3'.toInt ≤ 12 → v3.toInt < v3'.toInt → Ok (PUlC sg) (r4 (v1', v3', sg))) := hz
    obtain ⟨h0, h1, h2, h3, h4, h5⟩ := hz
    subst sg1
    show Ok (PUlC sg) (fX7_upsetWeight_18 r4 rec v1 v3 v4 sg)
    exact sX7_upsetWeight_18 hI h1 h2 h3 h4 h5 (fun v1' v3' v4' g0 g1 g2 g3 g4 g5 => hrec (v1', v3', v4', sg) ⟨rfl, g0, g1, g2, g3, g4⟩ (show (12 - v4'.toInt).toNat < (12 - v4.toInt).toNat by omega))
  · exact ⟨rfl, v3l, v3h, v4l, v4h, hr4⟩
set_option maxHeartbeats 4000000 in
theorem sX7_upsetWeight_4 {r4 : (Int64 × Int32 × Sg) → Option (Int64 × Sg)} {v1 : Int64} {v3 : Int32} {sg : Sg} (hI : IC sg) (v3l : 1 ≤ v3.toInt) (v3h : v3.toInt ≤ 12) (hr4 : ∀ (v1' : Int64) (v3' : Int32), 1 ≤ v3'.toInt → v3'.toInt ≤ 12 → v3.toInt < v3'.toInt → Ok (PUlC sg) (r4 (v1', v3', sg))) : Ok (PUlC sg) (fX7_upsetWeight_4 r4 v1 v3 sg) := by
  unfold fX7_upsetWeight_4
  refine ok_ite (fun c1 => ?_) (fun c1 => ?_)
  · have f2 := rdC3_2 hI.1
    replace c1 := i_le.mp c1
    exact ok_some (mkPUlC)
  · have f3 := rdC3_2 hI.1
    replace c1 := i_nle.mp c1
    have k4 : (0 : Int32).toInt = 0 := by decide
    exact sLX7_upsetWeight_18 hI (by omega) (by omega) (by omega) (by omega) hr4
set_option maxHeartbeats 4000000 in
theorem sLX7_upsetWeight_4 {v1 : Int64} {v3 : Int32} {sg : Sg} (hI : IC sg) (v3l : 1 ≤ v3.toInt) (v3h : v3.toInt ≤ 12) : Ok (PUlC sg) (LX7_upsetWeight_4 (v1, v3, sg)) := by
  unfold LX7_upsetWeight_4
  refine ok_loop (I := fun (z : Int64 × Int32 × Sg) => z.2.2 = sg ∧ 1 ≤ z.2.1.toInt ∧ z.2.1.toInt ≤ 12) (m := fun (z : Int64 × Int32 × Sg) => (13 - z.2.1.toInt).toNat) _ ?_ ?_ _ ?_
  · intro z hz
    obtain ⟨h0, h1, h2⟩ := hz
    show (13 - z.2.1.toInt).toNat < 10000
    omega
  · intro rec z hz hrec
    obtain ⟨v1, v3, sg1⟩ := z
    replace hz : sg1 = sg ∧ 1 ≤ v3.toInt ∧ v3.toInt ≤ 12 := hz
    obtain ⟨h0, h1, h2⟩ := hz
    subst sg1
    show Ok (PUlC sg) (fX7_upsetWeight_4 rec v1 v3 sg)
    exact sX7_upsetWeight_4 hI h1 h2 (fun v1' v3' g0 g1 g2 => hrec (v1', v3', sg) ⟨rfl, g0, g1⟩ (show (13 - v3'.toInt).toNat < (13 - v3.toInt).toNat by omega))
  · exact ⟨rfl, v3l, v3h⟩
set_option maxHeartbeats 4000000 in
theorem sX7_upsetWeight {sg : Sg} (hI : IC sg) : Ok (PUlC sg) (fX7_upsetWeight sg) := by
  unfold fX7_upsetWeight
  have k1 : (1 : Int32).toInt = 1 := by decide
  exact sLX7_upsetWeight_4 hI (by omega) (by omega)
set_option maxHeartbeats 4000000 in
theorem sX11_weight {sg : Sg} (hI : IC sg) : Ok (PLC MX11_weight sg) (fX11_weight sg) := by
  have hS : StC MX11_weight sg sg := StC.rf hI
  unfold fX11_weight
  refine bnd2_piC (sX7_readFrom  hS.1) (fun y1 sg2 hsg2 qy1 zy1 => ?_)
  have hS1 := hS.tr hsg2 (by decide)
  refine ok_ite (fun c2 => ?_) (fun c2 => ?_)
  · have k3 : (0 : Int32).toInt = 0 := by decide
    replace c2 := i_eq.mp c2
    exact ok_some (mkPLC hS1)
  · have k4 : (0 : Int32).toInt = 0 := by decide
    replace c2 := i_ne.mp c2
    refine bnd2_pulC (sX7_upsetWeight  hS1.1) (fun y5 => ?_)
    exact ok_some (mkPLC hS1)
set_option maxHeartbeats 4000000 in
theorem sX7_isKept {v1 : Int32} {sg : Sg} (hI : IC sg) (v1l : 0 ≤ v1.toInt) (v1h : v1.toInt ≤ 11) : Ok (PUC sg 0 1) (fX7_isKept v1 sg) := by
  unfold fX7_isKept
  refine ok_gin (by omega) (by omega) ?_
  have f1 := rdC20 hI.1 (j := v1.toNatClampNeg)
  refine ok_lt (fun x2 ex2 => ?_)
  replace ex2 := congrArg Int32.toInt ex2
  refine ok_ite (fun c2 => ?_) (fun c2 => ?_)
  · have k3 : (-1 : Int32).toInt = -1 := by decide
    replace c2 := i_eq.mp c2
    have k4 : (1 : Int32).toInt = 1 := by decide
    exact ok_some (mkPUC (by omega) (by omega))
  · have k5 : (-1 : Int32).toInt = -1 := by decide
    replace c2 := i_ne.mp c2
    refine ok_gin (by omega) (by omega) ?_
    refine ok_gin (by omega) (by omega) ?_
    have f6 := rdC33 hI.1 (j := v1.toNatClampNeg)
    have f7 := rdC33 hI.1 (j := x2.toNatClampNeg)
    have f8 := sub_i (a := (sg 33 v1.toNatClampNeg)) (b := (sg 33 x2.toNatClampNeg)) (by omega) (by omega)
    refine ok_lt (fun x6 ex6 => ?_)
    replace ex6 := congrArg Int32.toInt ex6
    refine ok_gin (by omega) (by omega) ?_
    have f9 := rdC19 hI.1 (j := v1.toNatClampNeg)
    refine ok_lt (fun x8 ex8 => ?_)
    replace ex8 := congrArg Int32.toInt ex8
    refine ok_ite (fun c10 => ?_) (fun c10 => ?_)
    · have k11 : (1 : Int32).toInt = 1 := by decide
      replace c10 := i_eq.mp c10
      refine ok_ite (fun c12 => ?_) (fun c12 => ?_)
      · have k13 : (0 : Int32).toInt = 0 := by decide
        replace c12 := i_le.mp c12
        exact ok_some (mkPUC (by omega) (by omega))
      · have k14 : (0 : Int32).toInt = 0 := by decide
        replace c12 := i_nle.mp c12
        exact ok_some (mkPUC (by omega) (by omega))
    · have k15 : (1 : Int32).toInt = 1 := by decide
      replace c10 := i_ne.mp c10
      refine ok_ite (fun c16 => ?_) (fun c16 => ?_)
      · have k17 : (2 : Int32).toInt = 2 := by decide
        replace c16 := i_eq.mp c16
        refine ok_ite (fun c18 => ?_) (fun c18 => ?_)
        · have k19 : (0 : Int32).toInt = 0 := by decide
          replace c18 := i_le.mp c18
          exact ok_some (mkPUC (by omega) (by omega))
        · have k20 : (0 : Int32).toInt = 0 := by decide
          replace c18 := i_nle.mp c18
          exact ok_some (mkPUC (by omega) (by omega))
      · have k21 : (2 : Int32).toInt = 2 := by decide
        replace c16 := i_ne.mp c16
        refine ok_ite (fun c22 => ?_) (fun c22 => ?_)
        · have k23 : (3 : Int32).toInt = 3 := by decide
          replace c22 := i_eq.mp c22
          refine ok_ite (fun c24 => ?_) (fun c24 => ?_)
          · replace c24 := i_eq.mp c24
            exact ok_some (mkPUC (by omega) (by omega))
          · replace c24 := i_ne.mp c24
            have k25 : (0 : Int32).toInt = 0 := by decide
            exact ok_some (mkPUC (by omega) (by omega))
        · have k26 : (3 : Int32).toInt = 3 := by decide
          replace c22 := i_ne.mp c22
          exact ok_some (mkPUC (by omega) (by omega))
set_option maxHeartbeats 4000000 in
theorem sX7_leastFault_2 {r2 : (Int32 × Sg) → Option (Int64 × Sg)} {v1 : Int32} {sg : Sg} (hI : IC sg) (v1l : 0 ≤ v1.toInt) (v1h : v1.toInt ≤ 12) (hr2 : ∀ (v1' : Int32), 0 ≤ v1'.toInt → v1'.toInt ≤ 12 → v1.toInt < v1'.toInt → Ok (PUlC sg) (r2 (v1', sg))) : Ok (PUlC sg) (fX7_leastFault_2 r2 v1 sg) := by
  unfold fX7_leastFault_2
  refine ok_ite (fun c1 => ?_) (fun c1 => ?_)
  · have f2 := rdC3_2 hI.1
    replace c1 := i_le.mp c1
    exact ok_some (mkPUlC)
  · have f3 := rdC3_2 hI.1
    replace c1 := i_nle.mp c1
    refine bnd2_puC (sX7_isKept (v1 := v1) hI (by omega) (by omega)) (fun y2 qy2 zy2 => ?_)
    refine ok_ite (fun c4 => ?_) (fun c4 => ?_)
    · have k5 : (0 : Int32).toInt = 0 := by decide
      replace c4 := i_eq.mp c4
      refine ok_gin (by omega) (by omega) ?_
      exact ok_some (mkPUlC)
    · have k6 : (0 : Int32).toInt = 0 := by decide
      replace c4 := i_ne.mp c4
      refine ok_lt (fun x6 ex6 => ?_)
      replace ex6 : x6.toInt = v1.toInt + 1 := by rw [ex6]; exact add_c 1 (by decide) (by omega) (by omega)
      exact hr2 x6 (by omega) (by omega) (by omega)
set_option maxHeartbeats 4000000 in
theorem sLX7_leastFault_2 {v1 : Int32} {sg : Sg} (hI : IC sg) (v1l : 0 ≤ v1.toInt) (v1h : v1.toInt ≤ 12) : Ok (PUlC sg) (LX7_leastFault_2 (v1, sg)) := by
  unfold LX7_leastFault_2
  refine ok_loop (I := fun (z : Int32 × Sg) => z.2 = sg ∧ 0 ≤ z.1.toInt ∧ z.1.toInt ≤ 12) (m := fun (z : Int32 × Sg) => (13 - z.1.toInt).toNat) _ ?_ ?_ _ ?_
  · intro z hz
    obtain ⟨h0, h1, h2⟩ := hz
    show (13 - z.1.toInt).toNat < 10000
    omega
  · intro rec z hz hrec
    obtain ⟨v1, sg1⟩ := z
    replace hz : sg1 = sg ∧ 0 ≤ v1.toInt ∧ v1.toInt ≤ 12 := hz
    obtain ⟨h0, h1, h2⟩ := hz
    subst sg1
    show Ok (PUlC sg) (fX7_leastFault_2 rec v1 sg)
    exact sX7_leastFault_2 hI h1 h2 (fun v1' g0 g1 g2 => hrec (v1', sg) ⟨rfl, g0, g1⟩ (show (13 - v1'.toInt).toNat < (13 - v1.toInt).toNat by omega))
  · exact ⟨rfl, v1l, v1h⟩
set_option maxHeartbeats 4000000 in
theorem sX7_leastFault {sg : Sg} (hI : IC sg) : Ok (PUlC sg) (fX7_leastFault sg) := by
  unfold fX7_leastFault
  have k1 : (0 : Int32).toInt = 0 := by decide
  exact sLX7_leastFault_2 hI (by omega) (by omega)
set_option maxHeartbeats 4000000 in
theorem sX11_fault {sg : Sg} (hI : IC sg) : Ok (PLC MX11_fault sg) (fX11_fault sg) := by
  have hS : StC MX11_fault sg sg := StC.rf hI
  unfold fX11_fault
  refine bnd2_piC (sX7_readFrom  hS.1) (fun y1 sg2 hsg2 qy1 zy1 => ?_)
  have hS1 := hS.tr hsg2 (by decide)
  refine ok_ite (fun c2 => ?_) (fun c2 => ?_)
  · have k3 : (0 : Int32).toInt = 0 := by decide
    replace c2 := i_eq.mp c2
    exact ok_some (mkPLC hS1)
  · have k4 : (0 : Int32).toInt = 0 := by decide
    replace c2 := i_ne.mp c2
    refine bnd2_pulC (sX7_leastFault  hS1.1) (fun y5 => ?_)
    exact ok_some (mkPLC hS1)
set_option maxHeartbeats 4000000 in
theorem sX7_writeTo_7 {s0 : Sg} {r7 : (Int32 × Sg) → Option (Sg)} {v2 : Int32} {sg : Sg} (hS : StC MX7_writeTo s0 sg) (v2l : 0 ≤ v2.toInt) (v2h : v2.toInt ≤ 12) (hr7 : ∀ (v2' : Int32) (sg' : Sg), StC MX7_writeTo s0 sg' → 0 ≤ v2'.toInt → v2'.toInt ≤ 12 → v2.toInt < v2'.toInt → Ok (PVC MX7_writeTo s0) (r7 (v2', sg'))) : Ok (PVC MX7_writeTo s0) (fX7_writeTo_7 r7 v2 sg) := by
  unfold fX7_writeTo_7
  refine ok_ite (fun c1 => ?_) (fun c1 => ?_)
  · have f2 := rdC3_2 hS.1.1
    replace c1 := i_le.mp c1
    exact ok_some (mkPVC hS)
  · have f3 := rdC3_2 hS.1.1
    replace c1 := i_nle.mp c1
    refine ok_gin (by omega) (by omega) ?_
    have f4 := rdC32 hS.1.1 (j := v2.toNatClampNeg)
    refine ok_lt (fun x3 ex3 => ?_)
    replace ex3 := congrArg Int32.toInt ex3
    refine ok_gin (by omega) (by omega) ?_
    have f5 := rdC17 hS.1.1 (j := x3.toNatClampNeg)
    refine bnd1_pvC (sX5_append (v1 := (sg 17 x3.toNatClampNeg)) hS.1 (by omega) (by omega)) (fun sg5 hsg5 => ?_)
    have e6 : (sg5 3 2).toInt = (sg 3 2).toInt := congrArg Int32.toInt (congrFun (hsg5.fr 3 (by decide)) _)
    have hS7 := hS.tr hsg5 (by decide)
    refine ok_lt (fun x7 ex7 => ?_)
    replace ex7 : x7.toInt = v2.toInt + 1 := by rw [ex7]; exact add_c 1 (by decide) (by omega) (by omega)
    exact hr7 x7 sg5 hS7 (by omega) (by omega) (by omega)
set_option maxHeartbeats 4000000 in
theorem sLX7_writeTo_7 {s0 : Sg} {v2 : Int32} {sg : Sg} (hS : StC MX7_writeTo s0 sg) (v2l : 0 ≤ v2.toInt) (v2h : v2.toInt ≤ 12) : Ok (PVC MX7_writeTo s0) (LX7_writeTo_7 (v2, sg)) := by
  unfold LX7_writeTo_7
  refine ok_loop (I := fun (z : Int32 × Sg) => StC MX7_writeTo s0 z.2 ∧ 0 ≤ z.1.toInt ∧ z.1.toInt ≤ 12) (m := fun (z : Int32 × Sg) => (13 - z.1.toInt).toNat) _ ?_ ?_ _ ?_
  · intro z hz
    obtain ⟨h0, h1, h2⟩ := hz
    show (13 - z.1.toInt).toNat < 10000
    omega
  · intro rec z hz hrec
    obtain ⟨v2, sg⟩ := z
    replace hz : StC MX7_writeTo s0 sg ∧ 0 ≤ v2.toInt ∧ v2.toInt ≤ 12 := hz
    obtain ⟨h0, h1, h2⟩ := hz
    show Ok (PVC MX7_writeTo s0) (fX7_writeTo_7 rec v2 sg)
    exact sX7_writeTo_7 h0 h1 h2 (fun v2' sg' g0 g1 g2 g3 => hrec (v2', sg') ⟨g0, g1, g2⟩ (show (13 - v2'.toInt).toNat < (13 - v2.toInt).toNat by omega))
  · exact ⟨hS, v2l, v2h⟩
set_option maxHeartbeats 4000000 in
theorem sX7_writeTo {sg : Sg} (hI : IC sg) : Ok (PVC MX7_writeTo sg) (fX7_writeTo sg) := by
  have hS : StC MX7_writeTo sg sg := StC.rf hI
  unfold fX7_writeTo
  have k1 : (0 : Int32).toInt = 0 := by decide
  refine ok_lt (fun sg1 esg1 => ?_)
  have hS2 := upC5_0 hS (by decide) esg1 (by omega) (by omega)
  have e3 : (sg1 5 0).toInt = (0 : Int32).toInt := by rw [esg1]; rfl
  exact sLX7_writeTo_7 hS2 (by omega) (by omega)
set_option maxHeartbeats 4000000 in
theorem sX11_shift_c32_32 {s0 : Sg} {r32 : (Int32 × Int32 × Int32 × Sg) → Option (Sg)} {v2 : Int32} {v3 : Int32} {v4 : Int32} {sg : Sg} (hS : StC MX11_shift_c32 s0 sg) (v2l : 0 ≤ v2.toInt) (v2h : v2.toInt ≤ 11) (v3l : 0 ≤ v3.toInt) (v3h : v3.toInt ≤ 11) (v4l : 0 ≤ v4.toInt) (v4h : v4.toInt ≤ 11) (hr32 : ∀ (v2' : Int32) (v3' : Int32) (v4' : Int32) (sg' : Sg), StC MX11_shift_c32 s0 sg' → 0 ≤ v2'.toInt → v2'.toInt ≤ 11 → 0 ≤ v3'.toInt → v3'.toInt ≤ 11 → 0 ≤ v4'.toInt → v4'.toInt ≤ 11 → v4'.toInt < v4.toInt → Ok (PVC MX11_shift_c32 s0) (r32 (v2', v3', v4', sg'))) : Ok (PVC MX11_shift_c32 s0) (fX11_shift_c32_32 r32 v2 v3 v4 sg) := by
  unfold fX11_shift_c32_32
  refine ok_ite (fun c1 => ?_) (fun c1 => ?_)
  · replace c1 := i_le.mp c1
    refine ok_gin (by omega) (by omega) ?_
    refine ok_lt (fun sg3 esg3 => ?_)
    have hS2 := upC32 hS (by decide) esg3 (by omega) (by omega)
    exact ok_some (mkPVC hS2)
  · replace c1 := i_nle.mp c1
    refine ok_lt (fun x4 ex4 => ?_)
    replace ex4 : x4.toInt = v4.toInt - 1 := by rw [ex4]; exact sub_c 1 (by decide) (by omega) (by omega)
    refine ok_gin (by omega) (by omega) ?_
    have f3 := rdC32 hS.1.1 (j := x4.toNatClampNeg)
    refine ok_lt (fun x6 ex6 => ?_)
    replace ex6 := congrArg Int32.toInt ex6
    refine ok_gin (by omega) (by omega) ?_
    refine ok_lt (fun sg8 esg8 => ?_)
    have hS4 := upC32 hS (by decide) esg8 (by omega) (by omega)
    refine ok_lt (fun x9 ex9 => ?_)
    replace ex9 : x9.toInt = v4.toInt + (-1) := by rw [ex9]; exact add_c (-1) (by decide) (by omega) (by omega)
    exact hr32 v2 v3 x9 sg8 hS4 (by omega) (by omega) (by omega) (by omega) (by omega) (by omega) (by omega)
set_option maxHeartbeats 4000000 in
theorem sLX11_shift_c32_32 {s0 : Sg} {v2 : Int32} {v3 : Int32} {v4 : Int32} {sg : Sg} (hS : StC MX11_shift_c32 s0 sg) (v2l : 0 ≤ v2.toInt) (v2h : v2.toInt ≤ 11) (v3l : 0 ≤ v3.toInt) (v3h : v3.toInt ≤ 11) (v4l : 0 ≤ v4.toInt) (v4h : v4.toInt ≤ 11) : Ok (PVC MX11_shift_c32 s0) (LX11_shift_c32_32 (v2, v3, v4, sg)) := by
  unfold LX11_shift_c32_32
  refine ok_loop (I := fun (z : Int32 × Int32 × Int32 × Sg) => StC MX11_shift_c32 s0 z.2.2.2 ∧ 0 ≤ z.1.toInt ∧ z.1.toInt ≤ 11 ∧ 0 ≤ z.2.1.toInt ∧ z.2.1.toInt ≤ 11 ∧ 0 ≤ z.2.2.1.toInt ∧ z.2.2.1.toInt ≤ 11) (m := fun (z : Int32 × Int32 × Int32 × Sg) => (z.2.2.1.toInt - (-1)).toNat) _ ?_ ?_ _ ?_
  · intro z hz
    obtain ⟨h0, h1, h2, h3, h4, h5, h6⟩ := hz
    show (z.2.2.1.toInt - (-1)).toNat < 10000
    omega
  · intro rec z hz hrec
    obtain ⟨v2, v3, v4, sg⟩ := z
    replace hz : StC MX11_shift_c32 s0 sg ∧ 0 ≤ v2.toInt ∧ v2.toInt ≤ 11 ∧ 0 ≤ v3.toInt ∧ v3.toInt ≤ 11 ∧ 0 ≤ v4.toInt ∧ v4.toInt ≤ 11 := hz
    obtain ⟨h0, h1, h2, h3, h4, h5, h6⟩ := hz
    show Ok (PVC MX11_shift_c32 s0) (fX11_shift_c32_32 rec v2 v3 v4 sg)
    exact sX11_shift_c32_32 h0 h1 h2 h3 h4 h5 h6 (fun v2' v3' v4' sg' g0 g1 g2 g3 g4 g5 g6 g7 => hrec (v2', v3', v4', sg') ⟨g0, g1, g2, g3, g4, g5, g6⟩ (show (v4'.toInt - (-1)).toNat < (v4.toInt - (-1)).toNat by omega))
  · exact ⟨hS, v2l, v2h, v3l, v3h, v4l, v4h⟩
set_option maxHeartbeats 4000000 in
theorem sX11_shift_c32_7 {s0 : Sg} {r7 : (Int32 × Int32 × Int32 × Int32 × Sg) → Option (Sg)} {v1 : Int32} {v2 : Int32} {v3 : Int32} {v4 : Int32} {sg : Sg} (hS : StC MX11_shift_c32 s0 sg) (v1l : 0 ≤ v1.toInt) (v1h : v1.toInt ≤ 11) (v2l : 0 ≤ v2.toInt) (v2h : v2.toInt ≤ 11) (v3l : 0 ≤ v3.toInt) (v3h : v3.toInt ≤ 11) (v4l : 0 ≤ v4.toInt) (v4h : v4.toInt ≤ 11) (hr7 : ∀ (v1' : Int32) (v2' : Int32) (v3' : Int32) (v4' : Int32) (sg' : Sg), StC MX11_shift_c32 s0 sg' → 0 ≤ v1'.toInt → v1'.toInt ≤ 11 → 0 ≤ v2'.toInt → v2'.toInt ≤ 11 → 0 ≤ v3'.toInt → v3'.toInt ≤ 11 → 0 ≤ v4'.toInt → v4'.toInt ≤ 11 → v4.toInt < v4'.toInt → Ok (PVC MX11_shift_c32 s0) (r7 (v1', v2', v3', v4', sg'))) : Ok (PVC MX11_shift_c32 s0) (fX11_shift_c32_7 r7 v1 v2 v3 v4 sg) := by
  unfold fX11_shift_c32_7
  refine ok_ite (fun c1 => ?_) (fun c1 => ?_)
  · replace c1 := i_le.mp c1
    exact sLX11_shift_c32_32 hS (by omega) (by omega) (by omega) (by omega) (by omega) (by omega)
  · replace c1 := i_nle.mp c1
    refine ok_lt (fun x2 ex2 => ?_)
    replace ex2 : x2.toInt = v4.toInt + 1 := by rw [ex2]; exact add_c 1 (by decide) (by omega) (by omega)
    refine ok_gin (by omega) (by omega) ?_
    have f2 := rdC32 hS.1.1 (j := x2.toNatClampNeg)
    refine ok_lt (fun x4 ex4 => ?_)
    replace ex4 := congrArg Int32.toInt ex4
    refine ok_gin (by omega) (by omega) ?_
    refine ok_lt (fun sg6 esg6 => ?_)
    have hS3 := upC32 hS (by decide) esg6 (by omega) (by omega)
    refine ok_lt (fun x7 ex7 => ?_)
    replace ex7 : x7.toInt = v4.toInt + 1 := by rw [ex7]; exact add_c 1 (by decide) (by omega) (by omega)
    exact hr7 v1 v2 v3 x7 sg6 hS3 (by omega) (by omega) (by omega) (by omega) (by omega) (by omega) (by omega) (by omega) (by omega)
set_option maxHeartbeats 4000000 in
theorem sLX11_shift_c32_7 {s0 : Sg} {v1 : Int32} {v2 : Int32} {v3 : Int32} {v4 : Int32} {sg : Sg} (hS : StC MX11_shift_c32 s0 sg) (v1l : 0 ≤ v1.toInt) (v1h : v1.toInt ≤ 11) (v2l : 0 ≤ v2.toInt) (v2h : v2.toInt ≤ 11) (v3l : 0 ≤ v3.toInt) (v3h : v3.toInt ≤ 11) (v4l : 0 ≤ v4.toInt) (v4h : v4.toInt ≤ 11) : Ok (PVC MX11_shift_c32 s0) (LX11_shift_c32_7 (v1, v2, v3, v4, sg)) := by
  unfold LX11_shift_c32_7
  refine ok_loop (I := fun (z : Int32 × Int32 × Int32 × Int32 × Sg) => StC MX11_shift_c32 s0 z.2.2.2.2 ∧ 0 ≤ z.1.toInt ∧ z.1.toInt ≤ 11 ∧ 0 ≤ z.2.1.toInt ∧ z.2.1.toInt ≤ 11 ∧ 0 ≤ z.2.2.1.toInt ∧ z.2.2.1.toInt ≤ 11 ∧ 0 ≤ z.2.2.2.1.toInt ∧ z.2.2.2.1.toInt ≤ 11) (m := fun (z : Int32 × Int32 × Int32 × Int32 × Sg) => (12 - z.2.2.2.1.toInt).toNat) _ ?_ ?_ _ ?_
  · intro z hz
    obtain ⟨h0, h1, h2, h3, h4, h5, h6, h7, h8⟩ := hz
    show (12 - z.2.2.2.1.toInt).toNat < 10000
    omega
  · intro rec z hz hrec
    obtain ⟨v1, v2, v3, v4, sg⟩ := z
    replace hz : StC MX11_shift_c32 s0 sg ∧ 0 ≤ v1.toInt ∧ v1.toInt ≤ 11 ∧ 0 ≤ v2.toInt ∧ v2.toInt ≤ 11 ∧ 0 ≤ v3.toInt ∧ v3.toInt ≤ 11 ∧ 0 ≤ v4.toInt ∧ v4.toInt ≤ 11 := hz
    obtain ⟨h0, h1, h2, h3, h4, h5, h6, h7, h8⟩ := hz
    show Ok (PVC MX11_shift_c32 s0) (fX11_shift_c32_7 rec v1 v2 v3 v4 sg)
    exact sX11_shift_c32_7 h0 h1 h2 h3 h4 h5 h6 h7 h8 (fun v1' v2' v3' v4' sg' g0 g1 g2 g3 g4 g5 g6 g7 g8 g9 => hrec (v1', v2', v3', v4', sg') ⟨g0, g1, g2, g3, g4, g5, g6, g7, g8⟩ (show (12 - v4'.toInt).toNat < (12 - v4.toInt).toNat by omega))
  · exact ⟨hS, v1l, v1h, v2l, v2h, v3l, v3h, v4l, v4h⟩
set_option maxHeartbeats 4000000 in
theorem sX11_shift_c32 {v1 : Int32} {v2 : Int32} {sg : Sg} (hI : IC sg) (v1l : 0 ≤ v1.toInt) (v1h : v1.toInt ≤ 11) (v2l : 0 ≤ v2.toInt) (v2h : v2.toInt ≤ 11) : Ok (PVC MX11_shift_c32 sg) (fX11_shift_c32 v1 v2 sg) := by
  have hS : StC MX11_shift_c32 sg sg := StC.rf hI
  unfold fX11_shift_c32
  refine ok_gin (by omega) (by omega) ?_
  have f1 := rdC32 hS.1.1 (j := v1.toNatClampNeg)
  refine ok_lt (fun x2 ex2 => ?_)
  replace ex2 := congrArg Int32.toInt ex2
  exact sLX11_shift_c32_7 hS (by omega) (by omega) (by omega) (by omega) (by omega) (by omega) (by omega) (by omega)
set_option maxHeartbeats 4000000 in
theorem sX7_moveSlot_15 {s0 : Sg} {r15 : (Int32 × Int32 × Int32 × Sg) → Option (Sg)} {v1 : Int32} {v2 : Int32} {v3 : Int32} {sg : Sg} (hS : StC MX7_moveSlot s0 sg) (v1l : 0 ≤ v1.toInt) (v1h : v1.toInt ≤ 11) (v2l : 0 ≤ v2.toInt) (v2h : v2.toInt ≤ 11) (v3l : 0 ≤ v3.toInt) (v3h : v3.toInt ≤ 12) (hr15 : ∀ (v1' : Int32) (v2' : Int32) (v3' : Int32) (sg' : Sg), StC MX7_moveSlot s0 sg' → 0 ≤ v1'.toInt → v1'.toInt ≤ 11 → 0 ≤ v2'.toInt → v2'.toInt ≤ 11 → 0 ≤ v3'.toInt → v3'.toInt ≤ 12 → v3.toInt < v3'.toInt → Ok (PVC MX7_moveSlot s0) (r15 (v1', v2', v3', sg'))) : Ok (PVC MX7_moveSlot s0) (fX7_moveSlot_15 r15 v1 v2 v3 sg) := by
  unfold fX7_moveSlot_15
  refine ok_ite (fun c1 => ?_) (fun c1 => ?_)
  · have f2 := ite_lt (a := v1) (b := v2) (x := v2) (y := v1)
    replace c1 := i_lt.mp c1
    exact ok_some (mkPVC hS)
  · have f3 := ite_lt (a := v1) (b := v2) (x := v2) (y := v1)
    replace c1 := i_nlt.mp c1
    refine ok_gin (by omega) (by omega) ?_
    have f4 := rdC32 hS.1.1 (j := v3.toNatClampNeg)
    refine ok_gin (by omega) (by omega) ?_
    refine ok_lt (fun sg4 esg4 => ?_)
    have hS5 := upC33 hS (by decide) esg4 (by omega) (by omega)
    refine ok_lt (fun x5 ex5 => ?_)
    replace ex5 : x5.toInt = v3.toInt + 1 := by rw [ex5]; exact add_c 1 (by decide) (by omega) (by omega)
    exact hr15 v1 v2 x5 sg4 hS5 (by omega) (by omega) (by omega) (by omega) (by omega) (by omega) (by omega)
set_option maxHeartbeats 4000000 in
theorem sLX7_moveSlot_15 {s0 : Sg} {v1 : Int32} {v2 : Int32} {v3 : Int32} {sg : Sg} (hS : StC MX7_moveSlot s0 sg) (v1l : 0 ≤ v1.toInt) (v1h : v1.toInt ≤ 11) (v2l : 0 ≤ v2.toInt) (v2h : v2.toInt ≤ 11) (v3l : 0 ≤ v3.toInt) (v3h : v3.toInt ≤ 12) : Ok (PVC MX7_moveSlot s0) (LX7_moveSlot_15 (v1, v2, v3, sg)) := by
  unfold LX7_moveSlot_15
  refine ok_loop (I := fun (z : Int32 × Int32 × Int32 × Sg) => StC MX7_moveSlot s0 z.2.2.2 ∧ 0 ≤ z.1.toInt ∧ z.1.toInt ≤ 11 ∧ 0 ≤ z.2.1.toInt ∧ z.2.1.toInt ≤ 11 ∧ 0 ≤ z.2.2.1.toInt ∧ z.2.2.1.toInt ≤ 12) (m := fun (z : Int32 × Int32 × Int32 × Sg) => (13 - z.2.2.1.toInt).toNat) _ ?_ ?_ _ ?_
  · intro z hz
    obtain ⟨h0, h1, h2, h3, h4, h5, h6⟩ := hz
    show (13 - z.2.2.1.toInt).toNat < 10000
    omega
  · intro rec z hz hrec
    obtain ⟨v1, v2, v3, sg⟩ := z
    replace hz : StC MX7_moveSlot s0 sg ∧ 0 ≤ v1.toInt ∧ v1.toInt ≤ 11 ∧ 0 ≤ v2.toInt ∧ v2.toInt ≤ 11 ∧ 0 ≤ v3.toInt ∧ v3.toInt ≤ 12 := hz
    obtain ⟨h0, h1, h2, h3, h4, h5, h6⟩ := hz
    show Ok (PVC MX7_moveSlot s0) (fX7_moveSlot_15 rec v1 v2 v3 sg)
    exact sX7_moveSlot_15 h0 h1 h2 h3 h4 h5 h6 (fun v1' v2' v3' sg' g0 g1 g2 g3 g4 g5 g6 g7 => hrec (v1', v2', v3', sg') ⟨g0, g1, g2, g3, g4, g5, g6⟩ (show (13 - v3'.toInt).toNat < (13 - v3.toInt).toNat by omega))
  · exact ⟨hS, v1l, v1h, v2l, v2h, v3l, v3h⟩
set_option maxHeartbeats 4000000 in
theorem sX7_moveSlot {v1 : Int32} {v2 : Int32} {sg : Sg} (hI : IC sg) (v1l : 0 ≤ v1.toInt) (v1h : v1.toInt ≤ 11) (v2l : 0 ≤ v2.toInt) (v2h : v2.toInt ≤ 11) : Ok (PVC MX7_moveSlot sg) (fX7_moveSlot v1 v2 sg) := by
  have hS : StC MX7_moveSlot sg sg := StC.rf hI
  unfold fX7_moveSlot
  refine bnd1_pvC (sX11_shift_c32 (v1 := v1) (v2 := v2) hS.1 (by omega) (by omega) (by omega) (by omega)) (fun sg1 hsg1 => ?_)
  have hS1 := hS.tr hsg1 (by decide)
  have f2 := ite_lt (a := v2) (b := v1) (x := v2) (y := v1)
  refine ok_lt (fun x4 ex4 => ?_)
  replace ex4 := congrArg Int32.toInt ex4
  exact sLX7_moveSlot_15 hS1 (by omega) (by omega) (by omega) (by omega) (by omega) (by omega)
set_option maxHeartbeats 4000000 in
theorem sX7_weighMoves_83 {s0 : Sg} {r83 : (Int32 × Int32 × Sg) → Option (Sg)} {v2 : Int32} {v3 : Int32} {sg : Sg} (hS : StC MX7_weighMoves s0 sg) (v2l : 0 ≤ v2.toInt) (v2h : v2.toInt ≤ 11) (v3l : (-1) ≤ v3.toInt) (v3h : v3.toInt ≤ 10) (hr83 : ∀ (v2' : Int32) (v3' : Int32) (sg' : Sg), StC MX7_weighMoves s0 sg' → 0 ≤ v2'.toInt → v2'.toInt ≤ 11 → (-1) ≤ v3'.toInt → v3'.toInt ≤ 10 → v3'.toInt < v3.toInt → Ok (PVC MX7_weighMoves s0) (r83 (v2', v3', sg'))) : Ok (PVC MX7_weighMoves s0) (fX7_weighMoves_83 r83 v2 v3 sg) := by
  unfold fX7_weighMoves_83
  refine ok_ite (fun c1 => ?_) (fun c1 => ?_)
  · have k2 : (0 : Int32).toInt = 0 := by decide
    replace c1 := i_lt.mp c1
    exact ok_some (mkPVC hS)
  · have k3 : (0 : Int32).toInt = 0 := by decide
    replace c1 := i_nlt.mp c1
    refine ok_lt (fun x2 ex2 => ?_)
    replace ex2 : x2.toInt = v3.toInt + 1 := by rw [ex2]; exact add_c 1 (by decide) (by omega) (by omega)
    refine ok_gin (by omega) (by omega) ?_
    refine ok_gin (by omega) (by omega) ?_
    have f4 := rdC32 hS.1.1 (j := v3.toNatClampNeg)
    refine bnd2_puC (sX8_peckOf (v1 := (sg 32 v3.toNatClampNeg)) (v2 := v2) hS.1 (by omega) (by omega) (by omega) (by omega)) (fun y5 qy5 zy5 => ?_)
    refine ok_gin (by omega) (by omega) ?_
    refine bnd2_puC (sX8_peckOf (v1 := v2) (v2 := (sg 32 v3.toNatClampNeg)) hS.1 (by omega) (by omega) (by omega) (by omega)) (fun y9 qy9 zy9 => ?_)
    refine ok_lt (fun x12 ex12 => ?_)
    replace ex12 := congrArg Int32.toInt ex12
    refine ok_gin (by omega) (by omega) ?_
    refine ok_lt (fun sg14 esg14 => ?_)
    have hS5 := upC34 hS (by decide) esg14
    refine ok_lt (fun x15 ex15 => ?_)
    replace ex15 : x15.toInt = v3.toInt + (-1) := by rw [ex15]; exact add_c (-1) (by decide) (by omega) (by omega)
    exact hr83 v2 x15 sg14 hS5 (by omega) (by omega) (by omega) (by omega) (by omega)
set_option maxHeartbeats 4000000 in
theorem sLX7_weighMoves_83 {s0 : Sg} {v2 : Int32} {v3 : Int32} {sg : Sg} (hS : StC MX7_weighMoves s0 sg) (v2l : 0 ≤ v2.toInt) (v2h : v2.toInt ≤ 11) (v3l : (-1) ≤ v3.toInt) (v3h : v3.toInt ≤ 10) : Ok (PVC MX7_weighMoves s0) (LX7_weighMoves_83 (v2, v3, sg)) := by
  unfold LX7_weighMoves_83
  refine ok_loop (I := fun (z : Int32 × Int32 × Sg) => StC MX7_weighMoves s0 z.2.2 ∧ 0 ≤ z.1.toInt ∧ z.1.toInt ≤ 11 ∧ (-1) ≤ z.2.1.toInt ∧ z.2.1.toInt ≤ 10) (m := fun (z : Int32 × Int32 × Sg) => (z.2.1.toInt - (-2)).toNat) _ ?_ ?_ _ ?_
  · intro z hz
    obtain ⟨h0, h1, h2, h3, h4⟩ := hz
    show (z.2.1.toInt - (-2)).toNat < 10000
    omega
  · intro rec z hz hrec
    obtain ⟨v2, v3, sg⟩ := z
    replace hz : StC MX7_weighMoves s0 sg ∧ 0 ≤ v2.toInt ∧ v2.toInt ≤ 11 ∧ (-1) ≤ v3.toInt ∧ v3.toInt ≤ 10 := hz
    obtain ⟨h0, h1, h2, h3, h4⟩ := hz
    show Ok (PVC MX7_weighMoves s0) (fX7_weighMoves_83 rec v2 v3 sg)
    exact sX7_weighMoves_83 h0 h1 h2 h3 h4 (fun v2' v3' sg' g0 g1 g2 g3 g4 g5 => hrec (v2', v3', sg') ⟨g0, g1, g2, g3, g4⟩ (show (v3'.toInt - (-2)).toNat < (v3.toInt - (-2)).toNat by omega))
  · exact ⟨hS, v2l, v2h, v3l, v3h⟩
set_option maxHeartbeats 4000000 in
theorem sX7_weighMoves_18 {s0 : Sg} {r18 : (Int32 × Int32 × Int32 × Sg) → Option (Sg)} {v1 : Int32} {v2 : Int32} {v3 : Int32} {sg : Sg} (hS : StC MX7_weighMoves s0 sg) (v1l : 0 ≤ v1.toInt) (v1h : v1.toInt ≤ 11) (v2l : 0 ≤ v2.toInt) (v2h : v2.toInt ≤ 11) (v3l : 1 ≤ v3.toInt) (v3h : v3.toInt ≤ 12) (hr18 : ∀ (v1' : Int32) (v2' : Int32) (v3' : Int32) (sg' : Sg), StC MX7_weighMoves s0 sg' → 0 ≤ v1'.toInt → v1'.toInt ≤ 11 → 0 ≤ v2'.toInt → v2'.toInt ≤ 11 → 1 ≤ v3'.toInt → v3'.toInt ≤ 12 → v3.toInt < v3'.toInt → Ok (PVC MX7_weighMoves s0) (r18 (v1', v2', v3', sg'))) : Ok (PVC MX7_weighMoves s0) (fX7_weighMoves_18 r18 v1 v2 v3 sg) := by
  unfold fX7_weighMoves_18
  refine ok_ite (fun c1 => ?_) (fun c1 => ?_)
  · have f2 := rdC3_2 hS.1.1
    replace c1 := i_le.mp c1
    refine ok_lt (fun x2 ex2 => ?_)
    replace ex2 : x2.toInt = v1.toInt - 1 := by rw [ex2]; exact sub_c 1 (by decide) (by omega) (by omega)
    exact sLX7_weighMoves_83 hS (by omega) (by omega) (by omega) (by omega)
  · have f3 := rdC3_2 hS.1.1
    replace c1 := i_nle.mp c1
    refine ok_lt (fun x3 ex3 => ?_)
    replace ex3 : x3.toInt = v3.toInt - 1 := by rw [ex3]; exact sub_c 1 (by decide) (by omega) (by omega)
    refine ok_gin (by omega) (by omega) ?_
    refine ok_gin (by omega) (by omega) ?_
    have f4 := rdC32 hS.1.1 (j := v3.toNatClampNeg)
    refine bnd2_puC (sX8_peckOf (v1 := v2) (v2 := (sg 32 v3.toNatClampNeg)) hS.1 (by omega) (by omega) (by omega) (by omega)) (fun y6 qy6 zy6 => ?_)
    refine ok_gin (by omega) (by omega) ?_
    refine bnd2_puC (sX8_peckOf (v1 := (sg 32 v3.toNatClampNeg)) (v2 := v2) hS.1 (by omega) (by omega) (by omega) (by omega)) (fun y10 qy10 zy10 => ?_)
    refine ok_lt (fun x13 ex13 => ?_)
    replace ex13 := congrArg Int32.toInt ex13
    refine ok_gin (by omega) (by omega) ?_
    refine ok_lt (fun sg15 esg15 => ?_)
    have hS5 := upC34 hS (by decide) esg15
    have e6 : (sg15 3 2).toInt = (sg 3 2).toInt := by rw [esg15]; rfl
    refine ok_lt (fun x16 ex16 => ?_)
    replace ex16 : x16.toInt = v3.toInt + 1 := by rw [ex16]; exact add_c 1 (by decide) (by omega) (by omega)
    exact hr18 v1 v2 x16 sg15 hS5 (by omega) (by omega) (by omega) (by omega) (by omega) (by omega) (by omega)
set_option maxHeartbeats 4000000 in
theorem sLX7_weighMoves_18 {s0 : Sg} {v1 : Int32} {v2 : Int32} {v3 : Int32} {sg : Sg} (hS : StC MX7_weighMoves s0 sg) (v1l : 0 ≤ v1.toInt) (v1h : v1.toInt ≤ 11) (v2l : 0 ≤ v2.toInt) (v2h : v2.toInt ≤ 11) (v3l : 1 ≤ v3.toInt) (v3h : v3.toInt ≤ 12) : Ok (PVC MX7_weighMoves s0) (LX7_weighMoves_18 (v1, v2, v3, sg)) := by
  unfold LX7_weighMoves_18
  refine ok_loop (I := fun (z : Int32 × Int32 × Int32 × Sg) => StC MX7_weighMoves s0 z.2.2.2 ∧ 0 ≤ z.1.toInt ∧ z.1.toInt ≤ 11 ∧ 0 ≤ z.2.1.toInt ∧ z.2.1.toInt ≤ 11 ∧ 1 ≤ z.2.2.1.toInt ∧ z.2.2.1.toInt ≤ 12) (m := fun (z : Int32 × Int32 × Int32 × Sg) => (13 - z.2.2.1.toInt).toNat) _ ?_ ?_ _ ?_
  · intro z hz
    obtain ⟨h0, h1, h2, h3, h4, h5, h6⟩ := hz
    show (13 - z.2.2.1.toInt).toNat < 10000
    omega
  · intro rec z hz hrec
    obtain ⟨v1, v2, v3, sg⟩ := z
    replace hz : StC MX7_weighMoves s0 sg ∧ 0 ≤ v1.toInt ∧ v1.toInt ≤ 11 ∧ 0 ≤ v2.toInt ∧ v2.toInt ≤ 11 ∧ 1 ≤ v3.toInt ∧ v3.toInt ≤ 12 := hz
    obtain ⟨h0, h1, h2, h3, h4, h5, h6⟩ := hz
    show Ok (PVC MX7_weighMoves s0) (fX7_weighMoves_18 rec v1 v2 v3 sg)
    exact sX7_weighMoves_18 h0 h1 h2 h3 h4 h5 h6 (fun v1' v2' v3' sg' g0 g1 g2 g3 g4 g5 g6 g7 => hrec (v1', v2', v3', sg') ⟨g0, g1, g2, g3, g4, g5, g6⟩ (show (13 - v3'.toInt).toNat < (13 - v3.toInt).toNat by omega))
  · exact ⟨hS, v1l, v1h, v2l, v2h, v3l, v3h⟩
set_option maxHeartbeats 4000000 in
theorem sX7_weighMoves {v1 : Int32} {sg : Sg} (hI : IC sg) (v1l : 0 ≤ v1.toInt) (v1h : v1.toInt ≤ 11) : Ok (PVC MX7_weighMoves sg) (fX7_weighMoves v1 sg) := by
  have hS : StC MX7_weighMoves sg sg := StC.rf hI
  unfold fX7_weighMoves
  refine ok_gin (by omega) (by omega) ?_
  have f1 := rdC32 hS.1.1 (j := v1.toNatClampNeg)
  refine ok_lt (fun x2 ex2 => ?_)
  replace ex2 := congrArg Int32.toInt ex2
  refine ok_gin (by omega) (by omega) ?_
  have k2 : (0 : Int32).toInt = 0 := by decide
  refine ok_lt (fun sg4 esg4 => ?_)
  have hS3 := upC34 hS (by decide) esg4
  refine ok_lt (fun x5 ex5 => ?_)
  replace ex5 : x5.toInt = v1.toInt + 1 := by rw [ex5]; exact add_c 1 (by decide) (by omega) (by omega)
  exact sLX7_weighMoves_18 hS3 (by omega) (by omega) (by omega) (by omega) (by omega) (by omega)
set_option maxHeartbeats 4000000 in
theorem sX7_isLawfulAfter_22 {s0 : Sg} {v1 : Int32} {v2 : Int32} {w0 : Int32} {sg : Sg} (hS : StC MX7_isLawfulAfter s0 sg) (v1l : 0 ≤ v1.toInt) (v1h : v1.toInt ≤ 11) (v2l : 0 ≤ v2.toInt) (v2h : v2.toInt ≤ 11) (w0l : 0 ≤ w0.toInt) (w0h : w0.toInt ≤ 1) : Ok (PIC MX7_isLawfulAfter s0 0 1) (fX7_isLawfulAfter_22 v1 v2 w0 sg) := by
  unfold fX7_isLawfulAfter_22
  refine bnd1_pvC (sX7_moveSlot (v1 := v2) (v2 := v1) hS.1 (by omega) (by omega) (by omega) (by omega)) (fun sg1 hsg1 => ?_)
  have hS1 := hS.tr hsg1 (by decide)
  refine ok_gz (by omega) (by omega) ?_
  exact ok_some (mkPIC hS1 (by omega) (by omega))
set_option maxHeartbeats 4000000 in
theorem sX7_isLawfulAfter {v1 : Int32} {v2 : Int32} {sg : Sg} (hI : IC sg) (v1l : 0 ≤ v1.toInt) (v1h : v1.toInt ≤ 11) (v2l : 0 ≤ v2.toInt) (v2h : v2.toInt ≤ 11) : Ok (PIC MX7_isLawfulAfter sg 0 1) (fX7_isLawfulAfter v1 v2 sg) := by
  have hS : StC MX7_isLawfulAfter sg sg := StC.rf hI
  unfold fX7_isLawfulAfter
  refine bnd1_pvC (sX7_moveSlot (v1 := v1) (v2 := v2) hS.1 (by omega) (by omega) (by omega) (by omega)) (fun sg1 hsg1 => ?_)
  have hS1 := hS.tr hsg1 (by decide)
  refine bnd2_pulC (sX7_leastFault  hS1.1) (fun y3 => ?_)
  refine ok_ite (fun c2 => ?_) (fun c2 => ?_)
  · have k3 : (-2000000005 : Int64).toInt = -2000000005 := by decide
    replace c2 := j_eq.mp c2
    have k4 : (1 : Int32).toInt = 1 := by decide
    exact sX7_isLawfulAfter_22 hS1 (by omega) (by omega) (by omega) (by omega) (by omega) (by omega)
  · have k5 : (-2000000005 : Int64).toInt = -2000000005 := by decide
    replace c2 := j_ne.mp c2
    have k6 : (0 : Int32).toInt = 0 := by decide
    exact sX7_isLawfulAfter_22 hS1 (by omega) (by omega) (by omega) (by omega) (by omega) (by omega)
set_option maxHeartbeats 4000000 in
theorem sX7_improve_87 {s0 : Sg} {r9 : (Int32 × Int32 × Int32 × Int32 × Sg) → Option (Int32 × Sg)} {r39 : (Int32 × Int32 × Int32 × Int32 × Int32 × Int32 × Sg) → Option (Int32 × Sg)} {v1 : Int32} {v2 : Int32} {v3 : Int32} {v4 : Int32} {v5 : Int32} {v6 : Int32} {sg : Sg} (hS : StC MX7_improve s0 sg) (v2l : (-1) ≤ v2.toInt) (v2h : v2.toInt ≤ 11) (v3l : (-1) ≤ v3.toInt) (v3h : v3.toInt ≤ 11) (v4l : 0 ≤ v4.toInt) (v4h : v4.toInt ≤ 11) (v5l : 0 ≤ v5.toInt) (v5h : v5.toInt ≤ 11) (v6l : 0 ≤ v6.toInt) (v6h : v6.toInt ≤ 11) (xt : v2.toInt = -1 ∨ 0 ≤ v3.toInt) (hr9 : ∀ (v1' : Int32) (v2' : Int32) (v3' : Int32) (v4' : Int32) (sg' : Sg), StC MX7_improve s0 sg' → (-1) ≤ v2'.toInt → v2'.toInt ≤ 11 → (-1) ≤ v3'.toInt → v3'.toInt ≤ 11 → 0 ≤ v4'.toInt → v4'.toInt ≤ 12 → (v2'.toInt = -1 ∨ 0 ≤ v3'.toInt) → v4.toInt < v4'.toInt → Ok (PIC MX7_improve s0 0 1) (r9 (v1', v2', v3', v4', sg'))) (hr39 : ∀ (v1' : Int32) (v2' : Int32) (v3' : Int32) (v4' : Int32) (v5' : Int32) (v6' : Int32) (sg' : Sg), StC MX7_improve s0 sg' → (-1) ≤ v2'.toInt → v2'.toInt ≤ 11 → (-1) ≤ v3'.toInt → v3'.toInt ≤ 11 → 0 ≤ v4'.toInt → v4'.toInt ≤ 11 → 0 ≤ v5'.toInt → v5'.toInt ≤ 11 → 0 ≤ v6'.toInt → v6'.toInt ≤ 12 → (v2'.toInt = -1 ∨ 0 ≤ v3'.toInt) → (∀ (v1'' : Int32) (v2'' : Int32) (v3'' : Int32) (v4'' : Int32) (sg'' : Sg), StC MX7_improve s0 sg'' → (-1) ≤ v2''.toInt → v2''.toInt ≤ 11 → (-1) ≤ v3''.toInt → v3''.toInt ≤ 11 → 0 ≤ v4''.toInt → v4''.toInt ≤ 12 → (v2''.toInt = -1 ∨ 0 ≤ v3''.toInt) → v4'.toInt < v4''.toInt → Ok (PIC MX7_improve s0 0 1) (r9 (v1'', v2'', v3'', v4'', sg''))) → v6.toInt < v6'.toInt → Ok (PIC MX7_improve s0 0 1) (r39 (v1', v2', v3', v4', v5', v6', sg'))) : Ok (PIC MX7_improve s0 0 1) (fX7_improve_87 r9 r39 v1 v2 v3 v4 v5 v6 sg) := by
  unfold fX7_improve_87
  refine ok_lt (fun x1 ex1 => ?_)
  replace ex1 : x1.toInt = v6.toInt + 1 := by rw [ex1]; exact add_c 1 (by decide) (by omega) (by omega)
  exact hr39 v1 v2 v3 v4 v5 x1 sg hS (by omega) (by omega) (by omega) (by omega) (by omega) (by omega) (by omega) (by omega) (by omega) (by omega) (by omega) hr9 (by omega)
set_option maxHeartbeats 4000000 in
theorem sX7_improve_39 {s0 : Sg} {r9 : (Int32 × Int32 × Int32 × Int32 × Sg) → Option (Int32 × Sg)} {r39 : (Int32 × Int32 × Int32 × Int32 × Int32 × Int32 × Sg) → Option (Int32 × Sg)} {v1 : Int32} {v2 : Int32} {v3 : Int32} {v4 : Int32} {v5 : Int32} {v6 : Int32} {sg : Sg} (hS : StC MX7_improve s0 sg) (v2l : (-1) ≤ v2.toInt) (v2h : v2.toInt ≤ 11) (v3l : (-1) ≤ v3.toInt) (v3h : v3.toInt ≤ 11) (v4l : 0 ≤ v4.toInt) (v4h : v4.toInt ≤ 11) (v5l : 0 ≤ v5.toInt) (v5h : v5.toInt ≤ 11) (v6l : 0 ≤ v6.toInt) (v6h : v6.toInt ≤ 12) (xt : v2.toInt = -1 ∨ 0 ≤ v3.toInt) (hr9 : ∀ (v1' : Int32) (v2' : Int32) (v3' : Int32) (v4' : Int32) (sg' : Sg), StC MX7_improve s0 sg' → (-1) ≤ v2'.toInt → v2'.toInt ≤ 11 → (-1) ≤ v3'.toInt → v3'.toInt ≤ 11 → 0 ≤ v4'.toInt → v4'.toInt ≤ 12 → (v2'.toInt = -1 ∨ 0 ≤ v3'.toInt) → v4.toInt < v4'.toInt → Ok (PIC MX7_improve s0 0 1) (r9 (v1', v2', v3', v4', sg'))) (hr39 : ∀ (v1' : Int32) (v2' : Int32) (v3' : Int32) (v4' : Int32) (v5' : Int32) (v6' : Int32) (sg' : Sg), StC MX7_improve s0 sg' → (-1) ≤ v2'.toInt → v2'.toInt ≤ 11 → (-1) ≤ v3'.toInt → v3'.toInt ≤ 11 → 0 ≤ v4'.toInt → v4'.toInt ≤ 11 → 0 ≤ v5'.toInt → v5'.toInt ≤ 11 → 0 ≤ v6'.toInt → v6'.toInt ≤ 12 → (v2'.toInt = -1 ∨ 0 ≤ v3'.toInt) → (∀ (v1'' : Int32) (v2'' : Int32) (v3'' : Int32) (v4'' : Int32) (sg'' : Sg), StC MX7_improve s0 sg'' → (-1) ≤ v2''.toInt → v2''.toInt ≤ 11 → (-1) ≤ v3''.toInt → v3''.toInt ≤ 11 → 0 ≤ v4''.toInt → v4''.toInt ≤ 12 → (v2''.toInt = -1 ∨ 0 ≤ v3''.toInt) → v4'.toInt < v4''.toInt → Ok (PIC MX7_improve s0 0 1) (r9 (v1'', v2'', v3'', v4'', sg''))) → v6.toInt < v6'.toInt → Ok (PIC MX7_improve s0 0 1) (r39 (v1', v2', v3', v4', v5', v6', sg'))) : Ok (PIC MX7_improve s0 0 1) (fX7_improve_39 r9 r39 v1 v2 v3 v4 v5 v6 sg) := by
  unfold fX7_improve_39
  refine ok_ite (fun c1 => ?_) (fun c1 => ?_)
  · have f2 := rdC3_2 hS.1.1
    replace c1 := i_le.mp c1
    refine ok_lt (fun x2 ex2 => ?_)
    replace ex2 : x2.toInt = v4.toInt + 1 := by rw [ex2]; exact add_c 1 (by decide) (by omega) (by omega)
    exact hr9 v1 v2 v3 x2 sg hS (by omega) (by omega) (by omega) (by omega) (by omega) (by omega) (by omega) (by omega)
  · have f3 := rdC3_2 hS.1.1
    replace c1 := i_nle.mp c1
    refine ok_gin (by omega) (by omega) ?_
    refine ok_ite (fun c4 => ?_) (fun c4 => ?_)
    · replace c4 := i_le.mp c4
      exact sX7_improve_87 hS (by omega) (by omega) (by omega) (by omega) (by omega) (by omega) (by omega) (by omega) (by omega) (by omega) (by omega) hr9 hr39
    · replace c4 := i_nle.mp c4
      refine bnd2_piC (sX7_isLawfulAfter (v1 := v5) (v2 := v6) hS.1 (by omega) (by omega) (by omega) (by omega)) (fun y5 sg6 hsg6 qy5 zy5 => ?_)
      have e5 : (sg6 3 2).toInt = (sg 3 2).toInt := congrArg Int32.toInt (congrFun (hsg6.fr 3 (by decide)) _)
      have hS6 := hS.tr hsg6 (by decide)
      refine ok_ite (fun c7 => ?_) (fun c7 => ?_)
      · have k8 : (0 : Int32).toInt = 0 := by decide
        replace c7 := i_eq.mp c7
        exact sX7_improve_87 hS6 (by omega) (by omega) (by omega) (by omega) (by omega) (by omega) (by omega) (by omega) (by omega) (by omega) (by omega) hr9 hr39
      · have k9 : (0 : Int32).toInt = 0 := by decide
        replace c7 := i_ne.mp c7
        refine ok_gin (by omega) (by omega) ?_
        refine ok_lt (fun x10 ex10 => ?_)
        replace ex10 := congrArg Int32.toInt ex10
        exact sX7_improve_87 hS6 (by omega) (by omega) (by omega) (by omega) (by omega) (by omega) (by omega) (by omega) (by omega) (by omega) (by omega) hr9 hr39
set_option maxHeartbeats 4000000 in
theorem sLX7_improve_39 {s0 : Sg} {r9 : (Int32 × Int32 × Int32 × Int32 × Sg) → Option (Int32 × Sg)} {v1 : Int32} {v2 : Int32} {v3 : Int32} {v4 : Int32} {v5 : Int32} {v6 : Int32} {sg : Sg} (hS : StC MX7_improve s0 sg) (v2l : (-1) ≤ v2.toInt) (v2h : v2.toInt ≤ 11) (v3l : (-1) ≤ v3.toInt) (v3h : v3.toInt ≤ 11) (v4l : 0 ≤ v4.toInt) (v4h : v4.toInt ≤ 11) (v5l : 0 ≤ v5.toInt) (v5h : v5.toInt ≤ 11) (v6l : 0 ≤ v6.toInt) (v6h : v6.toInt ≤ 12) (xt : (v2.toInt = -1 ∨ 0 ≤ v3.toInt)) (hr9 : ∀ (v1' : Int32) (v2' : Int32) (v3' : Int32) (v4' : Int32) (sg' : Sg), StC MX7_improve s0 sg' → (-1) ≤ v2'.toInt → v2'.toInt ≤ 11 → (-1) ≤ v3'.toInt → v3'.toInt ≤ 11 → 0 ≤ v4'.toInt → v4'.toInt ≤ 12 → (v2'.toInt = -1 ∨ 0 ≤ v3'.toInt) → v4.toInt < v4'.toInt → Ok (PIC MX7_improve s0 0 1) (r9 (v1', v2', v3', v4', sg'))) : Ok (PIC MX7_improve s0 0 1) (LX7_improve_39 r9 (v1, v2, v3, v4, v5, v6, sg)) := by
  unfold LX7_improve_39
  refine ok_loop (I := fun (z : Int32 × Int32 × Int32 × Int32 × Int32 × Int32 × Sg) => StC MX7_improve s0 z.2.2.2.2.2.2 ∧ (-1) ≤ z.2.1.toInt ∧ z.2.1.toInt ≤ 11 ∧ (-1) ≤ z.2.2.1.toInt ∧ z.2.2.1.toInt ≤ 11 ∧ 0 ≤ z.2.2.2.1.toInt ∧ z.2.2.2.1.toInt ≤ 11 ∧ 0 ≤ z.2.2.2.2.1.toInt ∧ z.2.2.2.2.1.toInt ≤ 11 ∧ 0 ≤ z.2.2.2.2.2.1.toInt ∧ z.2.2.2.2.2.1.toInt ≤ 12 ∧ (z.2.1.toInt = -1 ∨ 0 ≤ z.2.2.1.toInt) ∧ (∀ (v1' : Int32) (v2' : Int32) (v3' : Int32) (v4' : Int32) (sg' : Sg), StC MX7_improve s0 sg' → (-1) ≤ v2'.toInt → v2'.toInt ≤ 11 → (-1) ≤ v3'.toInt → v3'.toInt ≤ 11 → 0 ≤ v4'.toInt → v4'.toInt ≤ 12 → (v2'.toInt = -1 ∨ 0 ≤ v3'.toInt) → z.2.2.2.1.toInt < v4'.toInt → Ok (PIC MX7_improve s0 0 1) (r9 (v1', v2', v3', v4', sg')))) (m := fun (z : Int32 × Int32 × Int32 × Int32 × Int32 × Int32 × Sg) => (13 - z.2.2.2.2.2.1.toInt).toNat) _ ?_ ?_ _ ?_
  · intro z hz
    obtain ⟨h0, h1, h2, h3, h4, h5, h6, h7, h8, h9, h10, h11, h12⟩ := hz
    show (13 - z.2.2.2.2.2.1.toInt).toNat < 10000
    omega
  · intro rec z hz hrec
    obtain ⟨v1, v2, v3, v4, v5, v6, sg⟩ := z
    replace hz : StC MX7_improve s0 sg ∧ (-1) ≤ v2.toInt ∧ v2.toInt ≤ 11 ∧ (-1) ≤ v3.toInt ∧ v3.toInt ≤ 11 ∧ 0 ≤ v4.toInt ∧ v4.toInt ≤ 11 ∧ 0 ≤ v5.toInt ∧ v5.toInt ≤ 11 ∧ 0 ≤ v6.toInt ∧ v6.toInt ≤ 12 ∧ (v2.toInt = -1 ∨ 0 ≤ v3.toInt) ∧ (∀ (v1' : Int32) (v2' : Int32) (v3' : Int32) (v4' : Int32) (sg' : Sg), StC MX7_improve s0 sg' → (-1) ≤ v2'.toInt → v2'.toInt ≤ 11 → (-1) ≤ v3'.toInt → v3'.toInt ≤ 11 → 0 ≤ v4'.toInt → v4'.toInt ≤ 12 → (v2'.toInt = -1 ∨ 0 ≤ v3'.toInt) → v4.toInt < v4'.toInt → Ok (PIC MX7_improve s0 0 1) (r9 (v1', v2', v3', v4', sg'))) := hz
    obtain ⟨h0, h1, h2, h3, h4, h5, h6, h7, h8, h9, h10, h11, h12⟩ := hz
    show Ok (PIC MX7_improve s0 0 1) (fX7_improve_39 r9 rec v1 v2 v3 v4 v5 v6 sg)
    exact sX7_improve_39 h0 h1 h2 h3 h4 h5 h6 h7 h8 h9 h10 h11 h12 (fun v1' v2' v3' v4' v5' v6' sg' g0 g1 g2 g3 g4 g5 g6 g7 g8 g9 g10 g11 g12 g13 => hrec (v1', v2', v3', v4', v5', v6', sg') ⟨g0, g1, g2, g3, g4, g5, g6, g7, g8, g9, g10, g11, g12⟩ (show (13 - v6'.toInt).toNat < (13 - v6.toInt).toNat by omega))
  · exact ⟨hS, v2l, v2h, v3l, v3h, v4l, v4h, v5l, v5h, v6l, v6h, xt, hr9⟩
set_option maxHeartbeats 4000000 in
theorem sX7_improve_9 {s0 : Sg} {r9 : (Int32 × Int32 × Int32 × Int32 × Sg) → Option (Int32 × Sg)} {v1 : Int32} {v2 : Int32} {v3 : Int32} {v4 : Int32} {sg : Sg} (hS : StC MX7_improve s0 sg) (v2l : (-1) ≤ v2.toInt) (v2h : v2.toInt ≤ 11) (v3l : (-1) ≤ v3.toInt) (v3h : v3.toInt ≤ 11) (v4l : 0 ≤ v4.toInt) (v4h : v4.toInt ≤ 12) (xt : v2.toInt = -1 ∨ 0 ≤ v3.toInt) (hr9 : ∀ (v1' : Int32) (v2' : Int32) (v3' : Int32) (v4' : Int32) (sg' : Sg), StC MX7_improve s0 sg' → (-1) ≤ v2'.toInt → v2'.toInt ≤ 11 → (-1) ≤ v3'.toInt → v3'.toInt ≤ 11 → 0 ≤ v4'.toInt → v4'.toInt ≤ 12 → (v2'.toInt = -1 ∨ 0 ≤ v3'.toInt) → v4.toInt < v4'.toInt → Ok (PIC MX7_improve s0 0 1) (r9 (v1', v2', v3', v4', sg'))) : Ok (PIC MX7_improve s0 0 1) (fX7_improve_9 r9 v1 v2 v3 v4 sg) := by
  unfold fX7_improve_9
  refine ok_ite (fun c1 => ?_) (fun c1 => ?_)
  · have f2 := rdC3_2 hS.1.1
    replace c1 := i_le.mp c1
    refine ok_ite (fun c3 => ?_) (fun c3 => ?_)
    · have k4 : (-1 : Int32).toInt = -1 := by decide
      replace c3 := i_eq.mp c3
      have k5 : (0 : Int32).toInt = 0 := by decide
      exact ok_some (mkPIC hS (by omega) (by omega))
    · have k6 : (-1 : Int32).toInt = -1 := by decide
      replace c3 := i_ne.mp c3
      refine bnd1_pvC (sX7_moveSlot (v1 := v2) (v2 := v3) hS.1 (by omega) (by omega) (by omega) (by omega)) (fun sg3 hsg3 => ?_)
      have e7 : (sg3 3 2).toInt = (sg 3 2).toInt := congrArg Int32.toInt (congrFun (hsg3.fr 3 (by decide)) _)
      have hS8 := hS.tr hsg3 (by decide)
      have k9 : (1 : Int32).toInt = 1 := by decide
      exact ok_some (mkPIC hS8 (by omega) (by omega))
  · have f10 := rdC3_2 hS.1.1
    replace c1 := i_nle.mp c1
    refine ok_gin (by omega) (by omega) ?_
    have f11 := rdC33 hS.1.1 (j := v4.toNatClampNeg)
    refine ok_lt (fun x6 ex6 => ?_)
    replace ex6 := congrArg Int32.toInt ex6
    refine bnd1_pvC (sX7_weighMoves (v1 := x6) hS.1 (by omega) (by omega)) (fun sg7 hsg7 => ?_)
    have e12 : (sg7 3 2).toInt = (sg 3 2).toInt := congrArg Int32.toInt (congrFun (hsg7.fr 3 (by decide)) _)
    have hS13 := hS.tr hsg7 (by decide)
    have k14 : (0 : Int32).toInt = 0 := by decide
    exact sLX7_improve_39 hS13 (by omega) (by omega) (by omega) (by omega) (by omega) (by omega) (by omega) (by omega) (by omega) (by omega) (by omega) hr9
set_option maxHeartbeats 4000000 in
theorem sLX7_improve_9 {s0 : Sg} {v1 : Int32} {v2 : Int32} {v3 : Int32} {v4 : Int32} {sg : Sg} (hS : StC MX7_improve s0 sg) (v2l : (-1) ≤ v2.toInt) (v2h : v2.toInt ≤ 11) (v3l : (-1) ≤ v3.toInt) (v3h : v3.toInt ≤ 11) (v4l : 0 ≤ v4.toInt) (v4h : v4.toInt ≤ 12) (xt : (v2.toInt = -1 ∨ 0 ≤ v3.toInt)) : Ok (PIC MX7_improve s0 0 1) (LX7_improve_9 (v1, v2, v3, v4, sg)) := by
  unfold LX7_improve_9
  refine ok_loop (I := fun (z : Int32 × Int32 × Int32 × Int32 × Sg) => StC MX7_improve s0 z.2.2.2.2 ∧ (-1) ≤ z.2.1.toInt ∧ z.2.1.toInt ≤ 11 ∧ (-1) ≤ z.2.2.1.toInt ∧ z.2.2.1.toInt ≤ 11 ∧ 0 ≤ z.2.2.2.1.toInt ∧ z.2.2.2.1.toInt ≤ 12 ∧ (z.2.1.toInt = -1 ∨ 0 ≤ z.2.2.1.toInt)) (m := fun (z : Int32 × Int32 × Int32 × Int32 × Sg) => (13 - z.2.2.2.1.toInt).toNat) _ ?_ ?_ _ ?_
  · intro z hz
    obtain ⟨h0, h1, h2, h3, h4, h5, h6, h7⟩ := hz
    show (13 - z.2.2.2.1.toInt).toNat < 10000
    omega
  · intro rec z hz hrec
    obtain ⟨v1, v2, v3, v4, sg⟩ := z
    replace hz : StC MX7_improve s0 sg ∧ (-1) ≤ v2.toInt ∧ v2.toInt ≤ 11 ∧ (-1) ≤ v3.toInt ∧ v3.toInt ≤ 11 ∧ 0 ≤ v4.toInt ∧ v4.toInt ≤ 12 ∧ (v2.toInt = -1 ∨ 0 ≤ v3.toInt) := hz
    obtain ⟨h0, h1, h2, h3, h4, h5, h6, h7⟩ := hz
    show Ok (PIC MX7_improve s0 0 1) (fX7_improve_9 rec v1 v2 v3 v4 sg)
    exact sX7_improve_9 h0 h1 h2 h3 h4 h5 h6 h7 (fun v1' v2' v3' v4' sg' g0 g1 g2 g3 g4 g5 g6 g7 g8 => hrec (v1', v2', v3', v4', sg') ⟨g0, g1, g2, g3, g4, g5, g6, g7⟩ (show (13 - v4'.toInt).toNat < (13 - v4.toInt).toNat by omega))
  · exact ⟨hS, v2l, v2h, v3l, v3h, v4l, v4h, xt⟩
set_option maxHeartbeats 4000000 in
theorem sX7_improve {sg : Sg} (hI : IC sg) : Ok (PIC MX7_improve sg 0 1) (fX7_improve sg) := by
  have hS : StC MX7_improve sg sg := StC.rf hI
  unfold fX7_improve
  have k1 : (0 : Int32).toInt = 0 := by decide
  have k2 : (-1 : Int32).toInt = -1 := by decide
  exact sLX7_improve_9 hS (by omega) (by omega) (by omega) (by omega) (by omega) (by omega) (by omega)
set_option maxHeartbeats 4000000 in
theorem sX11_better_56 {s0 : Sg} {v2 : Int32} {sg : Sg} (hS : StC MX11_better s0 sg) (v2l : 0 ≤ v2.toInt) (v2h : v2.toInt ≤ 40) : Ok (PLC MX11_better s0) (fX11_better_56 v2 sg) := by
  unfold fX11_better_56
  refine bnd1_pvC (sX7_writeTo  hS.1) (fun sg1 hsg1 => ?_)
  have hS1 := hS.tr hsg1 (by decide)
  exact ok_some (mkPLC hS1)
set_option maxHeartbeats 4000000 in
theorem sX11_better_35 {s0 : Sg} {r35 : (Int32 × Int32 × Sg) → Option (Int64 × Sg)} {v1 : Int32} {v2 : Int32} {sg : Sg} (hS : StC MX11_better s0 sg) (v1l : 1 ≤ v1.toInt) (v1h : v1.toInt ≤ 40) (v2l : 0 ≤ v2.toInt) (v2h : v2.toInt ≤ 40) (hr35 : ∀ (v1' : Int32) (v2' : Int32) (sg' : Sg), StC MX11_better s0 sg' → 1 ≤ v1'.toInt → v1'.toInt ≤ 40 → 0 ≤ v2'.toInt → v2'.toInt ≤ 40 → v2.toInt < v2'.toInt → Ok (PLC MX11_better s0) (r35 (v1', v2', sg'))) : Ok (PLC MX11_better s0) (fX11_better_35 r35 v1 v2 sg) := by
  unfold fX11_better_35
  refine ok_ite (fun c1 => ?_) (fun c1 => ?_)
  · replace c1 := i_le.mp c1
    exact sX11_better_56 hS (by omega) (by omega)
  · replace c1 := i_nle.mp c1
    refine bnd2_piC (sX7_improve  hS.1) (fun y2 sg3 hsg3 qy2 zy2 => ?_)
    have hS2 := hS.tr hsg3 (by decide)
    refine ok_ite (fun c3 => ?_) (fun c3 => ?_)
    · have k4 : (0 : Int32).toInt = 0 := by decide
      replace c3 := i_eq.mp c3
      exact sX11_better_56 hS2 (by omega) (by omega)
    · have k5 : (0 : Int32).toInt = 0 := by decide
      replace c3 := i_ne.mp c3
      refine ok_lt (fun x6 ex6 => ?_)
      replace ex6 : x6.toInt = v2.toInt + 1 := by rw [ex6]; exact add_c 1 (by decide) (by omega) (by omega)
      exact hr35 v1 x6 sg3 hS2 (by omega) (by omega) (by omega) (by omega) (by omega)
set_option maxHeartbeats 4000000 in
theorem sLX11_better_35 {s0 : Sg} {v1 : Int32} {v2 : Int32} {sg : Sg} (hS : StC MX11_better s0 sg) (v1l : 1 ≤ v1.toInt) (v1h : v1.toInt ≤ 40) (v2l : 0 ≤ v2.toInt) (v2h : v2.toInt ≤ 40) : Ok (PLC MX11_better s0) (LX11_better_35 (v1, v2, sg)) := by
  unfold LX11_better_35
  refine ok_loop (I := fun (z : Int32 × Int32 × Sg) => StC MX11_better s0 z.2.2 ∧ 1 ≤ z.1.toInt ∧ z.1.toInt ≤ 40 ∧ 0 ≤ z.2.1.toInt ∧ z.2.1.toInt ≤ 40) (m := fun (z : Int32 × Int32 × Sg) => (41 - z.2.1.toInt).toNat) _ ?_ ?_ _ ?_
  · intro z hz
    obtain ⟨h0, h1, h2, h3, h4⟩ := hz
    show (41 - z.2.1.toInt).toNat < 10000
    omega
  · intro rec z hz hrec
    obtain ⟨v1, v2, sg⟩ := z
    replace hz : StC MX11_better s0 sg ∧ 1 ≤ v1.toInt ∧ v1.toInt ≤ 40 ∧ 0 ≤ v2.toInt ∧ v2.toInt ≤ 40 := hz
    obtain ⟨h0, h1, h2, h3, h4⟩ := hz
    show Ok (PLC MX11_better s0) (fX11_better_35 rec v1 v2 sg)
    exact sX11_better_35 h0 h1 h2 h3 h4 (fun v1' v2' sg' g0 g1 g2 g3 g4 g5 => hrec (v1', v2', sg') ⟨g0, g1, g2, g3, g4⟩ (show (41 - v2'.toInt).toNat < (41 - v2.toInt).toNat by omega))
  · exact ⟨hS, v1l, v1h, v2l, v2h⟩
set_option maxHeartbeats 4000000 in
theorem sX11_better {v1 : Int32} {sg : Sg} (hI : IC sg) : Ok (PLC MX11_better sg) (fX11_better v1 sg) := by
  have hS : StC MX11_better sg sg := StC.rf hI
  unfold fX11_better
  refine ok_ite (fun c1 => ?_) (fun c1 => ?_)
  · have k2 : (1 : Int32).toInt = 1 := by decide
    replace c1 := i_lt.mp c1
    exact ok_some (mkPLC hS)
  · have k3 : (1 : Int32).toInt = 1 := by decide
    replace c1 := i_nlt.mp c1
    refine ok_ite (fun c4 => ?_) (fun c4 => ?_)
    · have k5 : (40 : Int32).toInt = 40 := by decide
      replace c4 := i_le.mp c4
      refine bnd2_piC (sX7_readFrom  hS.1) (fun y3 sg4 hsg4 qy3 zy3 => ?_)
      have hS6 := hS.tr hsg4 (by decide)
      refine ok_ite (fun c7 => ?_) (fun c7 => ?_)
      · have k8 : (0 : Int32).toInt = 0 := by decide
        replace c7 := i_eq.mp c7
        exact ok_some (mkPLC hS6)
      · have k9 : (0 : Int32).toInt = 0 := by decide
        replace c7 := i_ne.mp c7
        exact sLX11_better_35 hS6 (by omega) (by omega) (by omega) (by omega)
    · have k10 : (40 : Int32).toInt = 40 := by decide
      replace c4 := i_nle.mp c4
      exact ok_some (mkPLC hS)
