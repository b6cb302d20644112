set_option maxHeartbeats 4000000 in
theorem sX10_packAll {sg : Sg} (hI : IC sg) : Ok (PLC MX10_packAll sg) (fX10_packAll sg) := by
  have hS : StC MX10_packAll sg sg := StC.rf hI
  unfold fX10_packAll
  refine bnd1_pvxC (sX8_gather  hS.1) (fun sg1 hsg1 xsg1 => ?_)
  replace xsg1 : (sg1 3 1).toInt = (sg1 1 1).toInt := xsg1
  have hS1 := hS.tr hsg1 (by decide)
  refine bnd1_pvC (sX10_takeAllPecks  hS1.1) (fun sg3 hsg3 => ?_)
  have e2 : (sg3 1 1).toInt = (sg1 1 1).toInt := congrArg Int32.toInt (congrFun (hsg3.fr 1 (by decide)) _)
  have e3 : (sg3 3 1).toInt = (sg1 3 1).toInt := congrArg Int32.toInt (congrFun (hsg3.fr 3 (by decide)) _)
  have hS4 := hS1.tr hsg3 (by decide)
  have k5 : (0 : Int32).toInt = 0 := by decide
  refine ok_lt (fun sg5 esg5 => ?_)
  have hS6 := upC8_1 hS4 (by decide) esg5 (by omega) (by omega)
  have e7 : (sg5 1 1).toInt = (sg3 1 1).toInt := by rw [esg5]; rfl
  have e8 : (sg5 3 1).toInt = (sg3 3 1).toInt := by rw [esg5]; rfl
  have e9 : (sg5 8 1).toInt = (0 : Int32).toInt := by rw [esg5]; rfl
  exact sLX10_packAll_20 hS6 (by omega) (by omega) (by omega)
set_option maxHeartbeats 4000000 in
theorem sX11_pack {sg : Sg} (hI : IC sg) : Ok (PLC MX11_pack sg) (fX11_pack sg) := by
  have hS : StC MX11_pack sg sg := StC.rf hI
  unfold fX11_pack
  refine bnd2_plC (sX10_packAll  hS.1) (fun y1 sg2 hsg2 => ?_)
  have hS1 := hS.tr hsg2 (by decide)
  exact ok_some (mkPLC hS1)
set_option maxHeartbeats 4000000 in
theorem sX10_tell {v1 : Int32} {v2 : Int32} {sg : Sg} (hI : IC sg) (v1l : 0 ≤ v1.toInt) (v1h : v1.toInt ≤ 131) (v2l : 0 ≤ v2.toInt) : Ok (PUlC sg) (fX10_tell v1 v2 sg) := by
  have w1 := hi32 v2
  unfold fX10_tell
  refine ok_ite (fun c2 => ?_) (fun c2 => ?_)
  · have k3 : (0 : Int32).toInt = 0 := by decide
    replace c2 := i_eq.mp c2
    refine ok_gin (by omega) (by omega) ?_
    exact ok_some (mkPUlC)
  · have k4 : (0 : Int32).toInt = 0 := by decide
    replace c2 := i_ne.mp c2
    refine ok_ite (fun c5 => ?_) (fun c5 => ?_)
    · have k6 : (1 : Int32).toInt = 1 := by decide
      replace c5 := i_eq.mp c5
      refine ok_gin (by omega) (by omega) ?_
      exact ok_some (mkPUlC)
    · have k7 : (1 : Int32).toInt = 1 := by decide
      replace c5 := i_ne.mp c5
      refine ok_gin (by omega) (by omega) ?_
      refine ok_ite (fun c8 => ?_) (fun c8 => ?_)
      · have f9 := rdC38 hI.1 (j := v1.toNatClampNeg)
        have k10 : (2 : Int32).toInt = 2 := by decide
        have f11 := sub_i (a := v2) (b := (2 : Int32)) (by omega) (by omega)
        replace c8 := i_le.mp c8
        exact ok_some (mkPUlC)
      · have f12 := rdC38 hI.1 (j := v1.toNatClampNeg)
        have k13 : (2 : Int32).toInt = 2 := by decide
        have f14 := sub_i (a := v2) (b := (2 : Int32)) (by omega) (by omega)
        replace c8 := i_nle.mp c8
        have k15 : (12 : Int32).toInt = 12 := by decide
        have f16 := mul_r (a := v1) (b := (12 : Int32)) 12 (by decide) (by omega) (by omega)
        have f17 := add_i (a := (v1 * (12 : Int32))) (b := v2) (by omega) (by omega)
        refine ok_lt (fun x5 ex5 => ?_)
        replace ex5 : x5.toInt = ((v1 * (12 : Int32)) + v2).toInt - 2 := by rw [ex5]; exact sub_c 2 (by decide) (by omega) (by omega)
        refine ok_gin (by omega) (by omega) ?_
        exact ok_some (mkPUlC)
set_option maxHeartbeats 4000000 in
theorem sX11_ring {v1 : Int32} {v2 : Int32} {sg : Sg} (hI : IC sg) : Ok (PUlC sg) (fX11_ring v1 v2 sg) := by
  unfold fX11_ring
  refine ok_ite (fun c1 => ?_) (fun c1 => ?_)
  · have k2 : (0 : Int32).toInt = 0 := by decide
    replace c1 := i_lt.mp c1
    exact ok_some (mkPUlC)
  · have k3 : (0 : Int32).toInt = 0 := by decide
    replace c1 := i_nlt.mp c1
    refine ok_ite (fun c4 => ?_) (fun c4 => ?_)
    · replace c4 := i_le.mp c4
      refine ok_ite (fun c5 => ?_) (fun c5 => ?_)
      · have f6 := rdC8_1 hI.1
        replace c5 := i_le.mp c5
        exact ok_some (mkPUlC)
      · have f7 := rdC8_1 hI.1
        replace c5 := i_nle.mp c5
        refine bnd2_pulC (sX10_tell (v1 := v1) (v2 := v2) hI (by omega) (by omega) (by omega)) (fun y4 => ?_)
        exact ok_some (mkPUlC)
    · replace c4 := i_nle.mp c4
      exact ok_some (mkPUlC)
set_option maxHeartbeats 4000000 in
theorem sX8_allPecks_15 {r4 : (Int64 × Int32 × Sg) → Option (Int64 × Sg)} {r15 : (Int64 × Int32 × Int32 × Sg) → Option (Int64 × Sg)} {v1 : Int64} {v3 : Int32} {v4 : Int32} {sg : Sg} (hI : IC sg) (v3l : 0 ≤ v3.toInt) (v3h : v3.toInt ≤ 11) (v4l : 0 ≤ v4.toInt) (v4h : v4.toInt ≤ 12) (hr4 : ∀ (v1' : Int64) (v3' : Int32), 0 ≤ v3'.toInt → v3'.toInt ≤ 12 → v3.toInt < v3'.toInt → Ok (PUlC sg) (r4 (v1', v3', sg))) (hr15 : ∀ (v1' : Int64) (v3' : Int32) (v4' : Int32), 0 ≤ v3'.toInt → v3'.toInt ≤ 11 → 0 ≤ v4'.toInt → v4'.toInt ≤ 12 → (∀ (v1'' : Int64) (v3'' : Int32), 0 ≤ v3''.toInt → v3''.toInt ≤ 12 → v3'.toInt < v3''.toInt → Ok (PUlC sg) (r4 (v1'', v3'', sg))) → v4.toInt < v4'.toInt → Ok (PUlC sg) (r15 (v1', v3', v4', sg))) : Ok (PUlC sg) (fX8_allPecks_15 r4 r15 v1 v3 v4 sg) := by
  unfold fX8_allPecks_15
  refine ok_ite (fun c1 => ?_) (fun c1 => ?_)
  · have f2 := rdC3_2 hI.1
    replace c1 := i_le.mp c1
    refine ok_lt (fun x2 ex2 => ?_)
    replace ex2 : x2.toInt = v3.toInt + 1 := by rw [ex2]; exact add_c 1 (by decide) (by omega) (by omega)
    exact hr4 v1 x2 (by omega) (by omega) (by omega)
  · have f3 := rdC3_2 hI.1
    replace c1 := i_nle.mp c1
    refine bnd2_puC (sX8_peckOf (v1 := v3) (v2 := v4) hI (by omega) (by omega) (by omega) (by omega)) (fun y3 qy3 zy3 => ?_)
    refine ok_lt (fun x6 ex6 => ?_)
    refine ok_lt (fun x7 ex7 => ?_)
    replace ex7 : x7.toInt = v4.toInt + 1 := by rw [ex7]; exact add_c 1 (by decide) (by omega) (by omega)
    exact hr15 x6 v3 x7 (by omega) (by omega) (by omega) (by omega) hr4 (by omega)
set_option maxHeartbeats 4000000 in
theorem sLX8_allPecks_15 {r4 : (Int64 × Int32 × Sg) → Option (Int64 × Sg)} {v1 : Int64} {v3 : Int32} {v4 : Int32} {sg : Sg} (hI : IC sg) (v3l : 0 ≤ v3.toInt) (v3h : v3.toInt ≤ 11) (v4l : 0 ≤ v4.toInt) (v4h : v4.toInt ≤ 12) (hr4 : ∀ (v1' : Int64) (v3' : Int32), 0 ≤ v3'.toInt → v3'.toInt ≤ 12 → v3.toInt < v3'.toInt → Ok (PUlC sg) (r4 (v1', v3', sg))) : Ok (PUlC sg) (LX8_allPecks_15 r4 (v1, v3, v4, sg)) := by
  unfold LX8_allPecks_15
  refine ok_loop (I := fun (z : Int64 × Int32 × Int32 × Sg) => z.2.2.2 = sg ∧ 0 ≤ z.2.1.toInt ∧ z.2.1.toInt ≤ 11 ∧ 0 ≤ z.2.2.1.toInt ∧ z.2.2.1.toInt ≤ 12 ∧ (∀ (v1' : Int64) (v3' : Int32), 0 ≤ v3'.toInt → v3'.toInt ≤ 12 → z.2.1.toInt < v3'.toInt → Ok (PUlC sg) (r4 (v1', v3', sg)))) (m := fun (z : Int64 × Int32 × Int32 × Sg) => (13 - z.2.2.1.toInt).toNat) _ ?_ ?_ _ ?_
  · intro z hz
    obtain ⟨h0, h1, h2, h3, h4, h5⟩ := hz
    show (13 - z.2.2.1.toInt).toNat < 10000
    omega
  · intro rec z hz hrec
    obtain ⟨v1, v3, v4, sg1⟩ := z
    replace hz : sg1 = sg ∧ 0 ≤ v3.toInt ∧ v3.toInt ≤ 11 ∧ 0 ≤ v4.toInt ∧ v4.toInt ≤ 12 ∧ (∀ (v1' : Int64) (v3' : Int32), 0 ≤ v3'.toInt → v3'.toInt ≤ 12 → v3.toInt < v3'.toInt → Ok (PUlC sg) (r4 (v1', v3', sg))) := hz
    obtain ⟨h0, h1, h2, h3, h4, h5⟩ := hz
    subst sg1
    show Ok (PUlC sg) (fX8_allPecks_15 r4 rec v1 v3 v4 sg)
    exact sX8_allPecks_15 hI h1 h2 h3 h4 h5 (fun v1' v3' v4' g0 g1 g2 g3 g4 g5 => hrec (v1', v3', v4', sg) ⟨rfl, g0, g1, g2, g3, g4⟩ (show (13 - v4'.toInt).toNat < (13 - v4.toInt).toNat by omega))
  · exact ⟨rfl, v3l, v3h, v4l, v4h, hr4⟩
set_option maxHeartbeats 4000000 in
theorem sX8_allPecks_4 {r4 : (Int64 × Int32 × Sg) → Option (Int64 × Sg)} {v1 : Int64} {v3 : Int32} {sg : Sg} (hI : IC sg) (v3l : 0 ≤ v3.toInt) (v3h : v3.toInt ≤ 12) (hr4 : ∀ (v1' : Int64) (v3' : Int32), 0 ≤ v3'.toInt → v3'.toInt ≤ 12 → v3.toInt < v3'.toInt → Ok (PUlC sg) (r4 (v1', v3', sg))) : Ok (PUlC sg) (fX8_allPecks_4 r4 v1 v3 sg) := by
  unfold fX8_allPecks_4
  refine ok_ite (fun c1 => ?_) (fun c1 => ?_)
  · have f2 := rdC3_2 hI.1
    replace c1 := i_le.mp c1
    exact ok_some (mkPUlC)
  · have f3 := rdC3_2 hI.1
    replace c1 := i_nle.mp c1
    have k4 : (0 : Int32).toInt = 0 := by decide
    exact sLX8_allPecks_15 hI (by omega) (by omega) (by omega) (by omega) hr4
set_option maxHeartbeats 4000000 in
theorem sLX8_allPecks_4 {v1 : Int64} {v3 : Int32} {sg : Sg} (hI : IC sg) (v3l : 0 ≤ v3.toInt) (v3h : v3.toInt ≤ 12) : Ok (PUlC sg) (LX8_allPecks_4 (v1, v3, sg)) := by
  unfold LX8_allPecks_4
  refine ok_loop (I := fun (z : Int64 × Int32 × Sg) => z.2.2 = sg ∧ 0 ≤ z.2.1.toInt ∧ z.2.1.toInt ≤ 12) (m := fun (z : Int64 × Int32 × Sg) => (13 - z.2.1.toInt).toNat) _ ?_ ?_ _ ?_
  · intro z hz
    obtain ⟨h0, h1, h2⟩ := hz
    show (13 - z.2.1.toInt).toNat < 10000
    omega
  · intro rec z hz hrec
    obtain ⟨v1, v3, sg1⟩ := z
    replace hz : sg1 = sg ∧ 0 ≤ v3.toInt ∧ v3.toInt ≤ 12 := hz
    obtain ⟨h0, h1, h2⟩ := hz
    subst sg1
    show Ok (PUlC sg) (fX8_allPecks_4 rec v1 v3 sg)
    exact sX8_allPecks_4 hI h1 h2 (fun v1' v3' g0 g1 g2 => hrec (v1', v3', sg) ⟨rfl, g0, g1⟩ (show (13 - v3'.toInt).toNat < (13 - v3.toInt).toNat by omega))
  · exact ⟨rfl, v3l, v3h⟩
set_option maxHeartbeats 4000000 in
theorem sX8_allPecks {sg : Sg} (hI : IC sg) : Ok (PUlC sg) (fX8_allPecks sg) := by
  unfold fX8_allPecks
  have k1 : (0 : Int32).toInt = 0 := by decide
  exact sLX8_allPecks_4 hI (by omega) (by omega)
set_option maxHeartbeats 4000000 in
theorem sX2_penCount_25 {r4 : (Int32 × Int32 × Sg) → Option (Int32 × Sg)} {v1 : Int32} {v2 : Int32} {sg : Sg} (hI : IC sg) (v2l : 0 ≤ v2.toInt) (v2h : v2.toInt ≤ 11) (hr4 : ∀ (v1' : Int32) (v2' : Int32), 0 ≤ v2'.toInt → v2'.toInt ≤ 12 → v2.toInt < v2'.toInt → Ok (PUC sg (-2147483648) 2147483647) (r4 (v1', v2', sg))) : Ok (PUC sg (-2147483648) 2147483647) (fX2_penCount_25 r4 v1 v2 sg) := by
  unfold fX2_penCount_25
  refine ok_lt (fun x1 ex1 => ?_)
  replace ex1 : x1.toInt = v2.toInt + 1 := by rw [ex1]; exact add_c 1 (by decide) (by omega) (by omega)
  exact hr4 v1 x1 (by omega) (by omega) (by omega)
set_option maxHeartbeats 4000000 in
theorem sX2_penCount_4 {r4 : (Int32 × Int32 × Sg) → Option (Int32 × Sg)} {v1 : Int32} {v2 : Int32} {sg : Sg} (hI : IC sg) (v2l : 0 ≤ v2.toInt) (v2h : v2.toInt ≤ 12) (hr4 : ∀ (v1' : Int32) (v2' : Int32), 0 ≤ v2'.toInt → v2'.toInt ≤ 12 → v2.toInt < v2'.toInt → Ok (PUC sg (-2147483648) 2147483647) (r4 (v1', v2', sg))) : Ok (PUC sg (-2147483648) 2147483647) (fX2_penCount_4 r4 v1 v2 sg) := by
  unfold fX2_penCount_4
  refine ok_ite (fun c1 => ?_) (fun c1 => ?_)
  · have f2 := rdC1_0 hI.1
    replace c1 := i_le.mp c1
    exact ok_some (mkPUC (lo32 _) (hi32 _))
  · have f3 := rdC1_0 hI.1
    replace c1 := i_nle.mp c1
    refine ok_gin (by omega) (by omega) ?_
    refine ok_ite (fun c4 => ?_) (fun c4 => ?_)
    · have f5 := rdC14 hI.1 (j := v2.toNatClampNeg)
      have k6 : (-1 : Int32).toInt = -1 := by decide
      replace c4 := i_eq.mp c4
      exact sX2_penCount_25 hI (by omega) (by omega) hr4
    · have f7 := rdC14 hI.1 (j := v2.toNatClampNeg)
      have k8 : (-1 : Int32).toInt = -1 := by decide
      replace c4 := i_ne.mp c4
      have k9 : (1 : Int32).toInt = 1 := by decide
      refine ok_lt (fun x4 ex4 => ?_)
      replace ex4 := congrArg Int32.toInt ex4
      exact sX2_penCount_25 hI (by omega) (by omega) hr4
set_option maxHeartbeats 4000000 in
theorem sLX2_penCount_4 {v1 : Int32} {v2 : Int32} {sg : Sg} (hI : IC sg) (v2l : 0 ≤ v2.toInt) (v2h : v2.toInt ≤ 12) : Ok (PUC sg (-2147483648) 2147483647) (LX2_penCount_4 (v1, v2, sg)) := by
  unfold LX2_penCount_4
  refine ok_loop (I := fun (z : Int32 × Int32 × Sg) => z.2.2 = sg ∧ 0 ≤ z.2.1.toInt ∧ z.2.1.toInt ≤ 12) (m := fun (z : Int32 × Int32 × Sg) => (13 - z.2.1.toInt).toNat) _ ?_ ?_ _ ?_
  · intro z hz
    obtain ⟨h0, h1, h2⟩ := hz
    show (13 - z.2.1.toInt).toNat < 10000
    omega
  · intro rec z hz hrec
    obtain ⟨v1, v2, sg1⟩ := z
    replace hz : sg1 = sg ∧ 0 ≤ v2.toInt ∧ v2.toInt ≤ 12 := hz
    obtain ⟨h0, h1, h2⟩ := hz
    subst sg1
    show Ok (PUC sg (-2147483648) 2147483647) (fX2_penCount_4 rec v1 v2 sg)
    exact sX2_penCount_4 hI h1 h2 (fun v1' v2' g0 g1 g2 => hrec (v1', v2', sg) ⟨rfl, g0, g1⟩ (show (13 - v2'.toInt).toNat < (13 - v2.toInt).toNat by omega))
  · exact ⟨rfl, v2l, v2h⟩
set_option maxHeartbeats 4000000 in
theorem sX2_penCount {sg : Sg} (hI : IC sg) : Ok (PUC sg (-2147483648) 2147483647) (fX2_penCount sg) := by
  unfold fX2_penCount
  have k1 : (0 : Int32).toInt = 0 := by decide
  exact sLX2_penCount_4 hI (by omega) (by omega)
set_option maxHeartbeats 4000000 in
theorem sX11_count {v1 : Int32} {sg : Sg} (hI : IC sg) : Ok (PLC MX11_count sg) (fX11_count v1 sg) := by
  have hS : StC MX11_count sg sg := StC.rf hI
  unfold fX11_count
  refine ok_ite (fun c1 => ?_) (fun c1 => ?_)
  · have k2 : (0 : Int32).toInt = 0 := by decide
    replace c1 := i_eq.mp c1
    exact ok_some (mkPLC hS)
  · have k3 : (0 : Int32).toInt = 0 := by decide
    replace c1 := i_ne.mp c1
    refine ok_ite (fun c4 => ?_) (fun c4 => ?_)
    · have k5 : (1 : Int32).toInt = 1 := by decide
      replace c4 := i_eq.mp c4
      refine bnd1_pvxC (sX8_gather  hS.1) (fun sg3 hsg3 xsg3 => ?_)
      replace xsg3 : (sg3 3 1).toInt = (sg3 1 1).toInt := xsg3
      have hS6 := hS.tr hsg3 (by decide)
      exact ok_some (mkPLC hS6)
    · have k7 : (1 : Int32).toInt = 1 := by decide
      replace c4 := i_ne.mp c4
      refine ok_ite (fun c8 => ?_) (fun c8 => ?_)
      · have k9 : (2 : Int32).toInt = 2 := by decide
        replace c8 := i_eq.mp c8
        exact ok_some (mkPLC hS)
      · have k10 : (2 : Int32).toInt = 2 := by decide
        replace c8 := i_ne.mp c8
        refine ok_ite (fun c11 => ?_) (fun c11 => ?_)
        · have k12 : (3 : Int32).toInt = 3 := by decide
          replace c11 := i_eq.mp c11
          exact ok_some (mkPLC hS)
        · have k13 : (3 : Int32).toInt = 3 := by decide
          replace c11 := i_ne.mp c11
          refine ok_ite (fun c14 => ?_) (fun c14 => ?_)
          · have k15 : (4 : Int32).toInt = 4 := by decide
            replace c14 := i_eq.mp c14
            exact ok_some (mkPLC hS)
          · have k16 : (4 : Int32).toInt = 4 := by decide
            replace c14 := i_ne.mp c14
            refine ok_ite (fun c17 => ?_) (fun c17 => ?_)
            · have k18 : (5 : Int32).toInt = 5 := by decide
              replace c17 := i_eq.mp c17
              refine bnd1_pvxC (sX8_gather  hS.1) (fun sg9 hsg9 xsg9 => ?_)
              replace xsg9 : (sg9 3 1).toInt = (sg9 1 1).toInt := xsg9
              have hS19 := hS.tr hsg9 (by decide)
              refine bnd2_pulC (sX8_allPecks  hS19.1) (fun y11 => ?_)
              exact ok_some (mkPLC hS19)
            · have k20 : (5 : Int32).toInt = 5 := by decide
              replace c17 := i_ne.mp c17
              refine ok_ite (fun c21 => ?_) (fun c21 => ?_)
              · have k22 : (6 : Int32).toInt = 6 := by decide
                replace c21 := i_eq.mp c21
                refine bnd2_puC (sX2_penCount  hS.1) (fun y15 qy15 zy15 => ?_)
                exact ok_some (mkPLC hS)
              · have k23 : (6 : Int32).toInt = 6 := by decide
                replace c21 := i_ne.mp c21
                exact ok_some (mkPLC hS)
