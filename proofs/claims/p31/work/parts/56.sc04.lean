set_option maxHeartbeats 4000000 in
theorem sX6_leadOn_4 {s0 : Sg} {r4 : (Int32 × Int32 × Int32 × Sg) → Option (Int32 × Sg)} {v1 : Int32} {v2 : Int32} {v3 : Int32} {sg : Sg} (hS : StC MX6_leadOn s0 sg) (v1l : 0 ≤ v1.toInt) (v1h : v1.toInt ≤ 11) (v2l : 0 ≤ v2.toInt) (v2h : v2.toInt ≤ 4095) (v3l : 0 ≤ v3.toInt) (v3h : v3.toInt ≤ 12) (hr4 : ∀ (v1' : Int32) (v2' : Int32) (v3' : Int32) (sg' : Sg), StC MX6_leadOn s0 sg' → 0 ≤ v1'.toInt → v1'.toInt ≤ 11 → 0 ≤ v2'.toInt → v2'.toInt ≤ 4095 → 0 ≤ v3'.toInt → v3'.toInt ≤ 12 → v3.toInt < v3'.toInt → Ok (PIC MX6_leadOn s0 0 1) (r4 (v1', v2', v3', sg'))) : Ok (PIC MX6_leadOn s0 0 1) (fX6_leadOn_4 r4 v1 v2 v3 sg) := by
  unfold fX6_leadOn_4
  refine ok_ite (fun c1 => ?_) (fun c1 => ?_)
  · have f2 := rdC3_2 hS.1.1
    replace c1 := i_le.mp c1
    refine bnd2_piC (sX6_addLeads (v1 := v1) (v2 := v2) hS.1 (by omega) (by omega) (by omega) (by omega)) (fun y2 sg3 hsg3 qy2 zy2 => ?_)
    have e3 : (sg3 3 2).toInt = (sg 3 2).toInt := congrArg Int32.toInt (congrFun (hsg3.fr 3 (by decide)) _)
    have hS4 := hS.tr hsg3 (by decide)
    refine ok_gz (by omega) (by omega) ?_
    exact ok_some (mkPIC hS4 (by omega) (by omega))
  · have f5 := rdC3_2 hS.1.1
    replace c1 := i_nle.mp c1
    refine ok_gin (by omega) (by omega) ?_
    have f6 := rdC45 hS.1.1 (j := v1.toNatClampNeg)
    refine bnd2_pxC (sX11_isIn (v0 := (sg 45 v1.toNatClampNeg)) (v1 := v3) hS.1 (by omega) (by omega) (by omega) (by omega)) (fun y7 qy7 zy7 xy7 => ?_)
    replace xy7 : y7.toInt = 0 ∨ 0 < ((sg 45 v1.toNatClampNeg) >>> (v3 &&& 31)).toInt := xy7
    refine ok_ite (fun c7 => ?_) (fun c7 => ?_)
    · have k8 : (0 : Int32).toInt = 0 := by decide
      replace c7 := i_eq.mp c7
      exact sX6_leadOn_37 hS (by omega) (by omega) (by omega) (by omega) (by omega) (by omega) hr4
    · have k9 : (0 : Int32).toInt = 0 := by decide
      replace c7 := i_ne.mp c7
      refine ok_gin (by omega) (by omega) ?_
      have f10 := rdC45 hS.1.1 (j := v3.toNatClampNeg)
      have f11 := or_i (a := v2) (b := (sg 45 v3.toNatClampNeg)) 12 4096 (by decide) (by decide) (by omega) (by omega) (by omega) (by omega)
      refine ok_lt (fun x13 ex13 => ?_)
      replace ex13 := congrArg Int32.toInt ex13
      exact sX6_leadOn_37 hS (by omega) (by omega) (by omega) (by omega) (by omega) (by omega) hr4
set_option maxHeartbeats 4000000 in
theorem sLX6_leadOn_4 {s0 : Sg} {v1 : Int32} {v2 : Int32} {v3 : Int32} {sg : Sg} (hS : StC MX6_leadOn s0 sg) (v1l : 0 ≤ v1.toInt) (v1h : v1.toInt ≤ 11) (v2l : 0 ≤ v2.toInt) (v2h : v2.toInt ≤ 4095) (v3l : 0 ≤ v3.toInt) (v3h : v3.toInt ≤ 12) : Ok (PIC MX6_leadOn s0 0 1) (LX6_leadOn_4 (v1, v2, v3, sg)) := by
  unfold LX6_leadOn_4
  refine ok_loop (I := fun (z : Int32 × Int32 × Int32 × Sg) => StC MX6_leadOn s0 z.2.2.2 ∧ 0 ≤ z.1.toInt ∧ z.1.toInt ≤ 11 ∧ 0 ≤ z.2.1.toInt ∧ z.2.1.toInt ≤ 4095 ∧ 0 ≤ z.2.2.1.toInt ∧ z.2.2.1.toInt ≤ 12) (m := fun (z : Int32 × Int32 × Int32 × Sg) => (13 - z.2.2.1.toInt).toNat) _ ?_ ?_ _ ?_
  · intro z hz
    obtain ⟨h0, h1, h2, h3, h4, h5, h6⟩ := hz
    show (13 - z.2.2.1.toInt).toNat < 10000
    omega
  · intro rec z hz hrec
    obtain ⟨v1, v2, v3, sg⟩ := z
    replace hz : StC MX6_leadOn s0 sg ∧ 0 ≤ v1.toInt ∧ v1.toInt ≤ 11 ∧ 0 ≤ v2.toInt ∧ v2.toInt ≤ 4095 ∧ 0 ≤ v3.toInt ∧ v3.toInt ≤ 12 := hz
    obtain ⟨h0, h1, h2, h3, h4, h5, h6⟩ := hz
    show Ok (PIC MX6_leadOn s0 0 1) (fX6_leadOn_4 rec v1 v2 v3 sg)
    exact sX6_leadOn_4 h0 h1 h2 h3 h4 h5 h6 (fun v1' v2' v3' sg' g0 g1 g2 g3 g4 g5 g6 g7 => hrec (v1', v2', v3', sg') ⟨g0, g1, g2, g3, g4, g5, g6⟩ (show (13 - v3'.toInt).toNat < (13 - v3.toInt).toNat by omega))
  · exact ⟨hS, v1l, v1h, v2l, v2h, v3l, v3h⟩
set_option maxHeartbeats 4000000 in
theorem sX6_leadOn {v1 : Int32} {sg : Sg} (hI : IC sg) (v1l : 0 ≤ v1.toInt) (v1h : v1.toInt ≤ 11) : Ok (PIC MX6_leadOn sg 0 1) (fX6_leadOn v1 sg) := by
  have hS : StC MX6_leadOn sg sg := StC.rf hI
  unfold fX6_leadOn
  have k1 : (0 : Int32).toInt = 0 := by decide
  exact sLX6_leadOn_4 hS (by omega) (by omega) (by omega) (by omega) (by omega) (by omega)
set_option maxHeartbeats 4000000 in
theorem sX6_leadAsBlock_103 {s0 : Sg} {r47 : (Int32 × Int32 × Int32 × Int32 × Sg) → Option (Int32 × Sg)} {v1 : Int32} {v2 : Int32} {v3 : Int32} {v4 : Int32} {sg : Sg} (hS : StC MX6_leadAsBlock s0 sg) (v1l : 0 ≤ v1.toInt) (v1h : v1.toInt ≤ 4095) (v2l : 0 ≤ v2.toInt) (v2h : v2.toInt ≤ 4095) (v3l : 0 ≤ v3.toInt) (v3h : v3.toInt ≤ 1) (v4l : 0 ≤ v4.toInt) (v4h : v4.toInt ≤ 11) (hr47 : ∀ (v1' : Int32) (v2' : Int32) (v3' : Int32) (v4' : Int32) (sg' : Sg), StC MX6_leadAsBlock s0 sg' → 0 ≤ v1'.toInt → v1'.toInt ≤ 4095 → 0 ≤ v2'.toInt → v2'.toInt ≤ 4095 → 0 ≤ v3'.toInt → v3'.toInt ≤ 1 → 0 ≤ v4'.toInt → v4'.toInt ≤ 12 → v4.toInt < v4'.toInt → Ok (PIC MX6_leadAsBlock s0 0 1) (r47 (v1', v2', v3', v4', sg'))) : Ok (PIC MX6_leadAsBlock s0 0 1) (fX6_leadAsBlock_103 r47 v1 v2 v3 v4 sg) := by
  unfold fX6_leadAsBlock_103
  refine ok_lt (fun x1 ex1 => ?_)
  replace ex1 : x1.toInt = v4.toInt + 1 := by rw [ex1]; exact add_c 1 (by decide) (by omega) (by omega)
  exact hr47 v1 v2 v3 x1 sg hS (by omega) (by omega) (by omega) (by omega) (by omega) (by omega) (by omega) (by omega) (by omega)
set_option maxHeartbeats 4000000 in
theorem sX6_leadAsBlock_47 {s0 : Sg} {r47 : (Int32 × Int32 × Int32 × Int32 × Sg) → Option (Int32 × Sg)} {v1 : Int32} {v2 : Int32} {v3 : Int32} {v4 : Int32} {sg : Sg} (hS : StC MX6_leadAsBlock s0 sg) (v1l : 0 ≤ v1.toInt) (v1h : v1.toInt ≤ 4095) (v2l : 0 ≤ v2.toInt) (v2h : v2.toInt ≤ 4095) (v3l : 0 ≤ v3.toInt) (v3h : v3.toInt ≤ 1) (v4l : 0 ≤ v4.toInt) (v4h : v4.toInt ≤ 12) (hr47 : ∀ (v1' : Int32) (v2' : Int32) (v3' : Int32) (v4' : Int32) (sg' : Sg), StC MX6_leadAsBlock s0 sg' → 0 ≤ v1'.toInt → v1'.toInt ≤ 4095 → 0 ≤ v2'.toInt → v2'.toInt ≤ 4095 → 0 ≤ v3'.toInt → v3'.toInt ≤ 1 → 0 ≤ v4'.toInt → v4'.toInt ≤ 12 → v4.toInt < v4'.toInt → Ok (PIC MX6_leadAsBlock s0 0 1) (r47 (v1', v2', v3', v4', sg'))) : Ok (PIC MX6_leadAsBlock s0 0 1) (fX6_leadAsBlock_47 r47 v1 v2 v3 v4 sg) := by
  unfold fX6_leadAsBlock_47
  refine ok_ite (fun c1 => ?_) (fun c1 => ?_)
  · have f2 := rdC3_2 hS.1.1
    replace c1 := i_le.mp c1
    refine ok_gz (by omega) (by omega) ?_
    exact ok_some (mkPIC hS (by omega) (by omega))
  · have f3 := rdC3_2 hS.1.1
    replace c1 := i_nle.mp c1
    refine bnd2_pxC (sX11_isIn (v0 := v1) (v1 := v4) hS.1 (by omega) (by omega) (by omega) (by omega)) (fun y3 qy3 zy3 xy3 => ?_)
    replace xy3 : y3.toInt = 0 ∨ 0 < (v1 >>> (v4 &&& 31)).toInt := xy3
    refine ok_ite (fun c4 => ?_) (fun c4 => ?_)
    · have k5 : (0 : Int32).toInt = 0 := by decide
      replace c4 := i_eq.mp c4
      refine ok_gin (by omega) (by omega) ?_
      refine ok_ite (fun c6 => ?_) (fun c6 => ?_)
      · have f7 := rdC45 hS.1.1 (j := v4.toNatClampNeg)
        have f8 := and_l (a := (sg 45 v4.toNatClampNeg)) (b := v1) (by omega)
        have f9 := and_r (a := (sg 45 v4.toNatClampNeg)) (b := v1) (by omega)
        replace c6 := i_eq.mp c6
        exact sX6_leadAsBlock_103 hS (by omega) (by omega) (by omega) (by omega) (by omega) (by omega) (by omega) (by omega) hr47
      · have f10 := rdC45 hS.1.1 (j := v4.toNatClampNeg)
        have f11 := and_l (a := (sg 45 v4.toNatClampNeg)) (b := v1) (by omega)
        have f12 := and_r (a := (sg 45 v4.toNatClampNeg)) (b := v1) (by omega)
        replace c6 := i_ne.mp c6
        refine bnd2_piC (sX6_addLeads (v1 := v4) (v2 := v1) hS.1 (by omega) (by omega) (by omega) (by omega)) (fun y10 sg11 hsg11 qy10 zy10 => ?_)
        have e13 : (sg11 3 2).toInt = (sg 3 2).toInt := congrArg Int32.toInt (congrFun (hsg11.fr 3 (by decide)) _)
        have hS14 := hS.tr hsg11 (by decide)
        have f15 := or_i (a := v3) (b := y10) 1 2 (by decide) (by decide) (by omega) (by omega) (by omega) (by omega)
        refine ok_lt (fun x13 ex13 => ?_)
        replace ex13 := congrArg Int32.toInt ex13
        exact sX6_leadAsBlock_103 hS14 (by omega) (by omega) (by omega) (by omega) (by omega) (by omega) (by omega) (by omega) hr47
    · have k16 : (0 : Int32).toInt = 0 := by decide
      replace c4 := i_ne.mp c4
      refine bnd2_piC (sX6_addLeads (v1 := v4) (v2 := v2) hS.1 (by omega) (by omega) (by omega) (by omega)) (fun y14 sg15 hsg15 qy14 zy14 => ?_)
      have e17 : (sg15 3 2).toInt = (sg 3 2).toInt := congrArg Int32.toInt (congrFun (hsg15.fr 3 (by decide)) _)
      have hS18 := hS.tr hsg15 (by decide)
      have f19 := or_i (a := v3) (b := y14) 1 2 (by decide) (by decide) (by omega) (by omega) (by omega) (by omega)
      refine ok_lt (fun x17 ex17 => ?_)
      replace ex17 := congrArg Int32.toInt ex17
      exact sX6_leadAsBlock_103 hS18 (by omega) (by omega) (by omega) (by omega) (by omega) (by omega) (by omega) (by omega) hr47
set_option maxHeartbeats 4000000 in
theorem sLX6_leadAsBlock_47 {s0 : Sg} {v1 : Int32} {v2 : Int32} {v3 : Int32} {v4 : Int32} {sg : Sg} (hS : StC MX6_leadAsBlock s0 sg) (v1l : 0 ≤ v1.toInt) (v1h : v1.toInt ≤ 4095) (v2l : 0 ≤ v2.toInt) (v2h : v2.toInt ≤ 4095) (v3l : 0 ≤ v3.toInt) (v3h : v3.toInt ≤ 1) (v4l : 0 ≤ v4.toInt) (v4h : v4.toInt ≤ 12) : Ok (PIC MX6_leadAsBlock s0 0 1) (LX6_leadAsBlock_47 (v1, v2, v3, v4, sg)) := by
  unfold LX6_leadAsBlock_47
  refine ok_loop (I := fun (z : Int32 × Int32 × Int32 × Int32 × Sg) => StC MX6_leadAsBlock s0 z.2.2.2.2 ∧ 0 ≤ z.1.toInt ∧ z.1.toInt ≤ 4095 ∧ 0 ≤ z.2.1.toInt ∧ z.2.1.toInt ≤ 4095 ∧ 0 ≤ z.2.2.1.toInt ∧ z.2.2.1.toInt ≤ 1 ∧ 0 ≤ z.2.2.2.1.toInt ∧ z.2.2.2.1.toInt ≤ 12) (m := fun (z : Int32 × Int32 × Int32 × Int32 × Sg) => (13 - z.2.2.2.1.toInt).toNat) _ ?_ ?_ _ ?_
  · intro z hz
    obtain ⟨h0, h1, h2, h3, h4, h5, h6, h7, h8⟩ := hz
    show (13 - z.2.2.2.1.toInt).toNat < 10000
    omega
  · intro rec z hz hrec
    obtain ⟨v1, v2, v3, v4, sg⟩ := z
    replace hz : StC MX6_leadAsBlock s0 sg ∧ 0 ≤ v1.toInt ∧ v1.toInt ≤ 4095 ∧ 0 ≤ v2.toInt ∧ v2.toInt ≤ 4095 ∧ 0 ≤ v3.toInt ∧ v3.toInt ≤ 1 ∧ 0 ≤ v4.toInt ∧ v4.toInt ≤ 12 := hz
    obtain ⟨h0, h1, h2, h3, h4, h5, h6, h7, h8⟩ := hz
    show Ok (PIC MX6_leadAsBlock s0 0 1) (fX6_leadAsBlock_47 rec v1 v2 v3 v4 sg)
    exact sX6_leadAsBlock_47 h0 h1 h2 h3 h4 h5 h6 h7 h8 (fun v1' v2' v3' v4' sg' g0 g1 g2 g3 g4 g5 g6 g7 g8 g9 => hrec (v1', v2', v3', v4', sg') ⟨g0, g1, g2, g3, g4, g5, g6, g7, g8⟩ (show (13 - v4'.toInt).toNat < (13 - v4.toInt).toNat by omega))
  · exact ⟨hS, v1l, v1h, v2l, v2h, v3l, v3h, v4l, v4h⟩
set_option maxHeartbeats 4000000 in
theorem sX6_leadAsBlock_36 {s0 : Sg} {r4 : (Int32 × Int32 × Int32 × Sg) → Option (Int32 × Sg)} {v1 : Int32} {v2 : Int32} {v3 : Int32} {sg : Sg} (hS : StC MX6_leadAsBlock s0 sg) (v1l : 0 ≤ v1.toInt) (v1h : v1.toInt ≤ 4095) (v2l : 0 ≤ v2.toInt) (v2h : v2.toInt ≤ 4095) (v3l : 0 ≤ v3.toInt) (v3h : v3.toInt ≤ 11) (hr4 : ∀ (v1' : Int32) (v2' : Int32) (v3' : Int32) (sg' : Sg), StC MX6_leadAsBlock s0 sg' → 0 ≤ v1'.toInt → v1'.toInt ≤ 4095 → 0 ≤ v2'.toInt → v2'.toInt ≤ 4095 → 0 ≤ v3'.toInt → v3'.toInt ≤ 12 → v3.toInt < v3'.toInt → Ok (PIC MX6_leadAsBlock s0 0 1) (r4 (v1', v2', v3', sg'))) : Ok (PIC MX6_leadAsBlock s0 0 1) (fX6_leadAsBlock_36 r4 v1 v2 v3 sg) := by
  unfold fX6_leadAsBlock_36
  refine ok_lt (fun x1 ex1 => ?_)
  replace ex1 : x1.toInt = v3.toInt + 1 := by rw [ex1]; exact add_c 1 (by decide) (by omega) (by omega)
  exact hr4 v1 v2 x1 sg hS (by omega) (by omega) (by omega) (by omega) (by omega) (by omega) (by omega)
set_option maxHeartbeats 4000000 in
theorem sX6_leadAsBlock_4 {s0 : Sg} {r4 : (Int32 × Int32 × Int32 × Sg) → Option (Int32 × Sg)} {v1 : Int32} {v2 : Int32} {v3 : Int32} {sg : Sg} (hS : StC MX6_leadAsBlock s0 sg) (v1l : 0 ≤ v1.toInt) (v1h : v1.toInt ≤ 4095) (v2l : 0 ≤ v2.toInt) (v2h : v2.toInt ≤ 4095) (v3l : 0 ≤ v3.toInt) (v3h : v3.toInt ≤ 12) (hr4 : ∀ (v1' : Int32) (v2' : Int32) (v3' : Int32) (sg' : Sg), StC MX6_leadAsBlock s0 sg' → 0 ≤ v1'.toInt → v1'.toInt ≤ 4095 → 0 ≤ v2'.toInt → v2'.toInt ≤ 4095 → 0 ≤ v3'.toInt → v3'.toInt ≤ 12 → v3.toInt < v3'.toInt → Ok (PIC MX6_leadAsBlock s0 0 1) (r4 (v1', v2', v3', sg'))) : Ok (PIC MX6_leadAsBlock s0 0 1) (fX6_leadAsBlock_4 r4 v1 v2 v3 sg) := by
  unfold fX6_leadAsBlock_4
  refine ok_ite (fun c1 => ?_) (fun c1 => ?_)
  · have f2 := rdC3_2 hS.1.1
    replace c1 := i_le.mp c1
    have k3 : (0 : Int32).toInt = 0 := by decide
    exact sLX6_leadAsBlock_47 hS (by omega) (by omega) (by omega) (by omega) (by omega) (by omega) (by omega) (by omega)
  · have f4 := rdC3_2 hS.1.1
    replace c1 := i_nle.mp c1
    refine bnd2_pxC (sX11_isIn (v0 := v1) (v1 := v3) hS.1 (by omega) (by omega) (by omega) (by omega)) (fun y2 qy2 zy2 xy2 => ?_)
    replace xy2 : y2.toInt = 0 ∨ 0 < (v1 >>> (v3 &&& 31)).toInt := xy2
    refine ok_ite (fun c5 => ?_) (fun c5 => ?_)
    · have k6 : (0 : Int32).toInt = 0 := by decide
      replace c5 := i_eq.mp c5
      exact sX6_leadAsBlock_36 hS (by omega) (by omega) (by omega) (by omega) (by omega) (by omega) hr4
    · have k7 : (0 : Int32).toInt = 0 := by decide
      replace c5 := i_ne.mp c5
      refine ok_gin (by omega) (by omega) ?_
      have f8 := rdC45 hS.1.1 (j := v3.toNatClampNeg)
      have f9 := and_l (a := (sg 45 v3.toNatClampNeg)) (b := (v1 ^^^ (-1 : Int32))) (by omega)
      have f10 := or_i (a := v2) (b := ((sg 45 v3.toNatClampNeg) &&& (v1 ^^^ (-1 : Int32)))) 12 4096 (by decide) (by decide) (by omega) (by omega) (by omega) (by omega)
      refine ok_lt (fun x8 ex8 => ?_)
      replace ex8 := congrArg Int32.toInt ex8
      exact sX6_leadAsBlock_36 hS (by omega) (by omega) (by omega) (by omega) (by omega) (by omega) hr4
set_option maxHeartbeats 4000000 in
theorem sLX6_leadAsBlock_4 {s0 : Sg} {v1 : Int32} {v2 : Int32} {v3 : Int32} {sg : Sg} (hS : StC MX6_leadAsBlock s0 sg) (v1l : 0 ≤ v1.toInt) (v1h : v1.toInt ≤ 4095) (v2l : 0 ≤ v2.toInt) (v2h : v2.toInt ≤ 4095) (v3l : 0 ≤ v3.toInt) (v3h : v3.toInt ≤ 12) : Ok (PIC MX6_leadAsBlock s0 0 1) (LX6_leadAsBlock_4 (v1, v2, v3, sg)) := by
  unfold LX6_leadAsBlock_4
  refine ok_loop (I := fun (z : Int32 × Int32 × Int32 × Sg) => StC MX6_leadAsBlock s0 z.2.2.2 ∧ 0 ≤ z.1.toInt ∧ z.1.toInt ≤ 4095 ∧ 0 ≤ z.2.1.toInt ∧ z.2.1.toInt ≤ 4095 ∧ 0 ≤ z.2.2.1.toInt ∧ z.2.2.1.toInt ≤ 12) (m := fun (z : Int32 × Int32 × Int32 × Sg) => (13 - z.2.2.1.toInt).toNat) _ ?_ ?_ _ ?_
  · intro z hz
    obtain ⟨h0, h1, h2, h3, h4, h5, h6⟩ := hz
    show (13 - z.2.2.1.toInt).toNat < 10000
    omega
  · intro rec z hz hrec
    obtain ⟨v1, v2, v3, sg⟩ := z
    replace hz : StC MX6_leadAsBlock s0 sg ∧ 0 ≤ v1.toInt ∧ v1.toInt ≤ 4095 ∧ 0 ≤ v2.toInt ∧ v2.toInt ≤ 4095 ∧ 0 ≤ v3.toInt ∧ v3.toInt ≤ 12 := hz
    obtain ⟨h0, h1, h2, h3, h4, h5, h6⟩ := hz
    show Ok (PIC MX6_leadAsBlock s0 0 1) (fX6_leadAsBlock_4 rec v1 v2 v3 sg)
    exact sX6_leadAsBlock_4 h0 h1 h2 h3 h4 h5 h6 (fun v1' v2' v3' sg' g0 g1 g2 g3 g4 g5 g6 g7 => hrec (v1', v2', v3', sg') ⟨g0, g1, g2, g3, g4, g5, g6⟩ (show (13 - v3'.toInt).toNat < (13 - v3.toInt).toNat by omega))
  · exact ⟨hS, v1l, v1h, v2l, v2h, v3l, v3h⟩
set_option maxHeartbeats 4000000 in
theorem sX6_leadAsBlock {v1 : Int32} {sg : Sg} (hI : IC sg) (v1l : 0 ≤ v1.toInt) (v1h : v1.toInt ≤ 4095) : Ok (PIC MX6_leadAsBlock sg 0 1) (fX6_leadAsBlock v1 sg) := by
  have hS : StC MX6_leadAsBlock sg sg := StC.rf hI
  unfold fX6_leadAsBlock
  have k1 : (0 : Int32).toInt = 0 := by decide
  exact sLX6_leadAsBlock_4 hS (by omega) (by omega) (by omega) (by omega) (by omega) (by omega)
set_option maxHeartbeats 4000000 in
theorem sX6_blockOf_54 {r6 : (Int32 × Int32 × Sg) → Option (Int32 × Sg)} {r20 : (Int32 × Int32 × Int32 × Sg) → Option (Int32 × Sg)} {v2 : Int32} {v3 : Int32} {v4 : Int32} {sg : Sg} (hI : IC sg) (v2l : 0 ≤ v2.toInt) (v2h : v2.toInt ≤ 4095) (v3l : 0 ≤ v3.toInt) (v3h : v3.toInt ≤ 11) (v4l : 0 ≤ v4.toInt) (v4h : v4.toInt ≤ 11) (hr6 : ∀ (v2' : Int32) (v3' : Int32), 0 ≤ v2'.toInt → v2'.toInt ≤ 4095 → 0 ≤ v3'.toInt → v3'.toInt ≤ 12 → v3.toInt < v3'.toInt → Ok (PUC sg 0 4095) (r6 (v2', v3', sg))) (hr20 : ∀ (v2' : Int32) (v3' : Int32) (v4' : Int32), 0 ≤ v2'.toInt → v2'.toInt ≤ 4095 → 0 ≤ v3'.toInt → v3'.toInt ≤ 11 → 0 ≤ v4'.toInt → v4'.toInt ≤ 12 → (∀ (v2'' : Int32) (v3'' : Int32), 0 ≤ v2''.toInt → v2''.toInt ≤ 4095 → 0 ≤ v3''.toInt → v3''.toInt ≤ 12 → v3'.toInt < v3''.toInt → Ok (PUC sg 0 4095) (r6 (v2'', v3'', sg))) → v4.toInt < v4'.toInt → Ok (PUC sg 0 4095) (r20 (v2', v3', v4', sg))) : Ok (PUC sg 0 4095) (fX6_blockOf_54 r6 r20 v2 v3 v4 sg) := by
  unfold fX6_blockOf_54
  refine ok_lt (fun x1 ex1 => ?_)
  replace ex1 : x1.toInt = v4.toInt + 1 := by rw [ex1]; exact add_c 1 (by decide) (by omega) (by omega)
  exact hr20 v2 v3 x1 (by omega) (by omega) (by omega) (by omega) (by omega) (by omega) hr6 (by omega)
set_option maxHeartbeats 4000000 in
theorem sX6_blockOf_20 {r6 : (Int32 × Int32 × Sg) → Option (Int32 × Sg)} {r20 : (Int32 × Int32 × Int32 × Sg) → Option (Int32 × Sg)} {v2 : Int32} {v3 : Int32} {v4 : Int32} {sg : Sg} (hI : IC sg) (v2l : 0 ≤ v2.toInt) (v2h : v2.toInt ≤ 4095) (v3l : 0 ≤ v3.toInt) (v3h : v3.toInt ≤ 11) (v4l : 0 ≤ v4.toInt) (v4h : v4.toInt ≤ 12) (hr6 : ∀ (v2' : Int32) (v3' : Int32), 0 ≤ v2'.toInt → v2'.toInt ≤ 4095 → 0 ≤ v3'.toInt → v3'.toInt ≤ 12 → v3.toInt < v3'.toInt → Ok (PUC sg 0 4095) (r6 (v2', v3', sg))) (hr20 : ∀ (v2' : Int32) (v3' : Int32) (v4' : Int32), 0 ≤ v2'.toInt → v2'.toInt ≤ 4095 → 0 ≤ v3'.toInt → v3'.toInt ≤ 11 → 0 ≤ v4'.toInt → v4'.toInt ≤ 12 → (∀ (v2'' : Int32) (v3'' : Int32), 0 ≤ v2''.toInt → v2''.toInt ≤ 4095 → 0 ≤ v3''.toInt → v3''.toInt ≤ 12 → v3'.toInt < v3''.toInt → Ok (PUC sg 0 4095) (r6 (v2'', v3'', sg))) → v4.toInt < v4'.toInt → Ok (PUC sg 0 4095) (r20 (v2', v3', v4', sg))) : Ok (PUC sg 0 4095) (fX6_blockOf_20 r6 r20 v2 v3 v4 sg) := by
  unfold fX6_blockOf_20
  refine ok_ite (fun c1 => ?_) (fun c1 => ?_)
  · have f2 := rdC3_2 hI.1
    replace c1 := i_le.mp c1
    refine ok_lt (fun x2 ex2 => ?_)
    replace ex2 : x2.toInt = v3.toInt + 1 := by rw [ex2]; exact add_c 1 (by decide) (by omega) (by omega)
    exact hr6 v2 x2 (by omega) (by omega) (by omega) (by omega) (by omega)
  · have f3 := rdC3_2 hI.1
    replace c1 := i_nle.mp c1
    refine bnd2_pxC (sX11_isIn (v0 := v2) (v1 := v4) hI (by omega) (by omega) (by omega) (by omega)) (fun y3 qy3 zy3 xy3 => ?_)
    replace xy3 : y3.toInt = 0 ∨ 0 < (v2 >>> (v4 &&& 31)).toInt := xy3
    refine ok_ite (fun c4 => ?_) (fun c4 => ?_)
    · have k5 : (0 : Int32).toInt = 0 := by decide
      replace c4 := i_eq.mp c4
      exact sX6_blockOf_54 hI (by omega) (by omega) (by omega) (by omega) (by omega) (by omega) hr6 hr20
    · have k6 : (0 : Int32).toInt = 0 := by decide
      replace c4 := i_ne.mp c4
      refine ok_gin (by omega) (by omega) ?_
      have f7 := rdC22 hI.1 (j := v4.toNatClampNeg)
      have f8 := or_i (a := v2) (b := (sg 22 v4.toNatClampNeg)) 12 4096 (by decide) (by decide) (by omega) (by omega) (by omega) (by omega)
      refine ok_lt (fun x9 ex9 => ?_)
      replace ex9 := congrArg Int32.toInt ex9
      exact sX6_blockOf_54 hI (by omega) (by omega) (by omega) (by omega) (by omega) (by omega) hr6 hr20
set_option maxHeartbeats 4000000 in
theorem sLX6_blockOf_20 {r6 : (Int32 × Int32 × Sg) → Option (Int32 × Sg)} {v2 : Int32} {v3 : Int32} {v4 : Int32} {sg : Sg} (hI : IC sg) (v2l : 0 ≤ v2.toInt) (v2h : v2.toInt ≤ 4095) (v3l : 0 ≤ v3.toInt) (v3h : v3.toInt ≤ 11) (v4l : 0 ≤ v4.toInt) (v4h : v4.toInt ≤ 12) (hr6 : ∀ (v2' : Int32) (v3' : Int32), 0 ≤ v2'.toInt → v2'.toInt ≤ 4095 → 0 ≤ v3'.toInt → v3'.toInt ≤ 12 → v3.toInt < v3'.toInt → Ok (PUC sg 0 4095) (r6 (v2', v3', sg))) : Ok (PUC sg 0 4095) (LX6_blockOf_20 r6 (v2, v3, v4, sg)) := by
  unfold LX6_blockOf_20
  refine ok_loop (I := fun (z : Int32 × Int32 × Int32 × Sg) => z.2.2.2 = sg ∧ 0 ≤ z.1.toInt ∧ z.1.toInt ≤ 4095 ∧ 0 ≤ z.2.1.toInt ∧ z.2.1.toInt ≤ 11 ∧ 0 ≤ z.2.2.1.toInt ∧ z.2.2.1.toInt ≤ 12 ∧ (∀ (v2' : Int32) (v3' : Int32), 0 ≤ v2'.toInt → v2'.toInt ≤ 4095 → 0 ≤ v3'.toInt → v3'.toInt ≤ 12 → z.2.1.toInt < v3'.toInt → Ok (PUC sg 0 4095) (r6 (v2', v3', sg)))) (m := fun (z : Int32 × Int32 × Int32 × Sg) => (13 - z.2.2.1.toInt).toNat) _ ?_ ?_ _ ?_
  · intro z hz
    obtain ⟨h0, h1, h2, h3, h4, h5, h6, h7⟩ := hz
    show (13 - z.2.2.1.toInt).toNat < 10000
    omega
  · intro rec z hz hrec
    obtain ⟨v2, v3, v4, sg1⟩ := z
    replace hz : sg1 = sg ∧ 0 ≤ v2.toInt ∧ v2.toInt ≤ 4095 ∧ 0 ≤ v3.toInt ∧ v3.toInt ≤ 11 ∧ 0 ≤ v4.toInt ∧ v4.toInt ≤ 12 ∧ (∀ (v2' : Int32) (v3' : Int32), 0 ≤ v2'.toInt → v2'.toInt ≤ 4095 → 0 ≤ v3'.toInt → v3'.toInt ≤ 12 → v3.toInt < v3'.toInt → Ok (PUC sg 0 4095) (r6 (v2', v3', sg))) := hz
    obtain ⟨h0, h1, h2, h3, h4, h5, h6, h7⟩ := hz
    subst sg1
    show Ok (PUC sg 0 4095) (fX6_blockOf_20 r6 rec v2 v3 v4 sg)
    exact sX6_blockOf_20 hI h1 h2 h3 h4 h5 h6 h7 (fun v2' v3' v4' g0 g1 g2 g3 g4 g5 g6 g7 => hrec (v2', v3', v4', sg) ⟨rfl, g0, g1, g2, g3, g4, g5, g6⟩ (show (13 - v4'.toInt).toNat < (13 - v4.toInt).toNat by omega))
  · exact ⟨rfl, v2l, v2h, v3l, v3h, v4l, v4h, hr6⟩
set_option maxHeartbeats 4000000 in
theorem sX6_blockOf_6 {r6 : (Int32 × Int32 × Sg) → Option (Int32 × Sg)} {v2 : Int32} {v3 : Int32} {sg : Sg} (hI : IC sg) (v2l : 0 ≤ v2.toInt) (v2h : v2.toInt ≤ 4095) (v3l : 0 ≤ v3.toInt) (v3h : v3.toInt ≤ 12) (hr6 : ∀ (v2' : Int32) (v3' : Int32), 0 ≤ v2'.toInt → v2'.toInt ≤ 4095 → 0 ≤ v3'.toInt → v3'.toInt ≤ 12 → v3.toInt < v3'.toInt → Ok (PUC sg 0 4095) (r6 (v2', v3', sg))) : Ok (PUC sg 0 4095) (fX6_blockOf_6 r6 v2 v3 sg) := by
  unfold fX6_blockOf_6
  refine ok_ite (fun c1 => ?_) (fun c1 => ?_)
  · have f2 := rdC3_2 hI.1
    replace c1 := i_le.mp c1
    exact ok_some (mkPUC (by omega) (by omega))
  · have f3 := rdC3_2 hI.1
    replace c1 := i_nle.mp c1
    have k4 : (0 : Int32).toInt = 0 := by decide
    exact sLX6_blockOf_20 hI (by omega) (by omega) (by omega) (by omega) (by omega) (by omega) hr6
set_option maxHeartbeats 4000000 in
theorem sLX6_blockOf_6 {v2 : Int32} {v3 : Int32} {sg : Sg} (hI : IC sg) (v2l : 0 ≤ v2.toInt) (v2h : v2.toInt ≤ 4095) (v3l : 0 ≤ v3.toInt) (v3h : v3.toInt ≤ 12) : Ok (PUC sg 0 4095) (LX6_blockOf_6 (v2, v3, sg)) := by
  unfold LX6_blockOf_6
  refine ok_loop (I := fun (z : Int32 × Int32 × Sg) => z.2.2 = sg ∧ 0 ≤ z.1.toInt ∧ z.1.toInt ≤ 4095 ∧ 0 ≤ z.2.1.toInt ∧ z.2.1.toInt ≤ 12) (m := fun (z : Int32 × Int32 × Sg) => (13 - z.2.1.toInt).toNat) _ ?_ ?_ _ ?_
  · intro z hz
    obtain ⟨h0, h1, h2, h3, h4⟩ := hz
    show (13 - z.2.1.toInt).toNat < 10000
    omega
  · intro rec z hz hrec
    obtain ⟨v2, v3, sg1⟩ := z
    replace hz : sg1 = sg ∧ 0 ≤ v2.toInt ∧ v2.toInt ≤ 4095 ∧ 0 ≤ v3.toInt ∧ v3.toInt ≤ 12 := hz
    obtain ⟨h0, h1, h2, h3, h4⟩ := hz
    subst sg1
    show Ok (PUC sg 0 4095) (fX6_blockOf_6 rec v2 v3 sg)
    exact sX6_blockOf_6 hI h1 h2 h3 h4 (fun v2' v3' g0 g1 g2 g3 g4 => hrec (v2', v3', sg) ⟨rfl, g0, g1, g2, g3⟩ (show (13 - v3'.toInt).toNat < (13 - v3.toInt).toNat by omega))
  · exact ⟨rfl, v2l, v2h, v3l, v3h⟩
set_option maxHeartbeats 4000000 in
theorem sX6_blockOf {v1 : Int32} {sg : Sg} (hI : IC sg) (v1l : 0 ≤ v1.toInt) (v1h : v1.toInt ≤ 11) : Ok (PUC sg 0 4095) (fX6_blockOf v1 sg) := by
  unfold fX6_blockOf
  have f1 := shl_i (v := v1) 11 2048 (by decide) (by decide) (by omega) (by omega)
  refine ok_lt (fun x1 ex1 => ?_)
  replace ex1 := congrArg Int32.toInt ex1
  have k2 : (0 : Int32).toInt = 0 := by decide
  exact sLX6_blockOf_6 hI (by omega) (by omega) (by omega) (by omega)
set_option maxHeartbeats 4000000 in
theorem sX6_followAsking_58 {s0 : Sg} {r47 : (Int32 × Sg) → Option (Sg)} {r58 : (Int32 × Int32 × Int32 × Sg) → Option (Sg)} {v1 : Int32} {v2 : Int32} {v3 : Int32} {sg : Sg} (hS : StC MX6_followAsking s0 sg) (v1l : 0 ≤ v1.toInt) (v1h : v1.toInt ≤ 144) (v2l : 0 ≤ v2.toInt) (v2h : v2.toInt ≤ 1) (v3l : 0 ≤ v3.toInt) (v3h : v3.toInt ≤ 12) (hr47 : ∀ (v1' : Int32) (sg' : Sg), StC MX6_followAsking s0 sg' → 0 ≤ v1'.toInt → v1'.toInt ≤ 145 → v1.toInt < v1'.toInt → Ok (PVC MX6_followAsking s0) (r47 (v1', sg'))) (hr58 : ∀ (v1' : Int32) (v2' : Int32) (v3' : Int32) (sg' : Sg), StC MX6_followAsking s0 sg' → 0 ≤ v1'.toInt → v1'.toInt ≤ 144 → 0 ≤ v2'.toInt → v2'.toInt ≤ 1 → 0 ≤ v3'.toInt → v3'.toInt ≤ 12 → (∀ (v1'' : Int32) (sg'' : Sg), StC MX6_followAsking s0 sg'' → 0 ≤ v1''.toInt → v1''.toInt ≤ 145 → v1'.toInt < v1''.toInt → Ok (PVC MX6_followAsking s0) (r47 (v1'', sg''))) → v3.toInt < v3'.toInt → Ok (PVC MX6_followAsking s0) (r58 (v1', v2', v3', sg'))) : Ok (PVC MX6_followAsking s0) (fX6_followAsking_58 r47 r58 v1 v2 v3 sg) := by
  unfold fX6_followAsking_58
  refine ok_ite (fun c1 => ?_) (fun c1 => ?_)
  · have f2 := rdC3_2 hS.1.1
    replace c1 := i_le.mp c1
    refine ok_ite (fun c3 => ?_) (fun c3 => ?_)
    · have k4 : (0 : Int32).toInt = 0 := by decide
      replace c3 := i_eq.mp c3
      exact ok_some (mkPVC hS)
    · have k5 : (0 : Int32).toInt = 0 := by decide
      replace c3 := i_ne.mp c3
      refine ok_lt (fun x3 ex3 => ?_)
      replace ex3 : x3.toInt = v1.toInt + 1 := by rw [ex3]; exact add_c 1 (by decide) (by omega) (by omega)
      exact hr47 x3 sg hS (by omega) (by omega) (by omega)
  · have f6 := rdC3_2 hS.1.1
    replace c1 := i_nle.mp c1
    refine bnd2_piC (sX6_leadOn (v1 := v3) hS.1 (by omega) (by omega)) (fun y4 sg5 hsg5 qy4 zy4 => ?_)
    have e7 : (sg5 3 2).toInt = (sg 3 2).toInt := congrArg Int32.toInt (congrFun (hsg5.fr 3 (by decide)) _)
    have hS8 := hS.tr hsg5 (by decide)
    have f9 := or_i (a := v2) (b := y4) 1 2 (by decide) (by decide) (by omega) (by omega) (by omega) (by omega)
    refine ok_lt (fun x7 ex7 => ?_)
    replace ex7 := congrArg Int32.toInt ex7
    refine ok_gin (by omega) (by omega) ?_
    have f10 := rdC46 hS8.1.1 (j := v3.toNatClampNeg)
    refine bnd2_piC (sX6_leadAsBlock (v1 := (sg5 46 v3.toNatClampNeg)) hS8.1 (by omega) (by omega)) (fun y9 sg10 hsg10 qy9 zy9 => ?_)
    have e11 : (sg10 3 2).toInt = (sg5 3 2).toInt := congrArg Int32.toInt (congrFun (hsg10.fr 3 (by decide)) _)
    have hS12 := hS8.tr hsg10 (by decide)
    have f13 := or_i (a := x7) (b := y9) 1 2 (by decide) (by decide) (by omega) (by omega) (by omega) (by omega)
    refine ok_lt (fun x12 ex12 => ?_)
    replace ex12 := congrArg Int32.toInt ex12
    refine ok_lt (fun x13 ex13 => ?_)
    replace ex13 : x13.toInt = v3.toInt + 1 := by rw [ex13]; exact add_c 1 (by decide) (by omega) (by omega)
    exact hr58 v1 x12 x13 sg10 hS12 (by omega) (by omega) (by omega) (by omega) (by omega) (by omega) hr47 (by omega)
set_option maxHeartbeats 4000000 in
theorem sLX6_followAsking_58 {s0 : Sg} {r47 : (Int32 × Sg) → Option (Sg)} {v1 : Int32} {v2 : Int32} {v3 : Int32} {sg : Sg} (hS : StC MX6_followAsking s0 sg) (v1l : 0 ≤ v1.toInt) (v1h : v1.toInt ≤ 144) (v2l : 0 ≤ v2.toInt) (v2h : v2.toInt ≤ 1) (v3l : 0 ≤ v3.toInt) (v3h : v3.toInt ≤ 12) (hr47 : ∀ (v1' : Int32) (sg' : Sg), StC MX6_followAsking s0 sg' → 0 ≤ v1'.toInt → v1'.toInt ≤ 145 → v1.toInt < v1'.toInt → Ok (PVC MX6_followAsking s0) (r47 (v1', sg'))) : Ok (PVC MX6_followAsking s0) (LX6_followAsking_58 r47 (v1, v2, v3, sg)) := by
  unfold LX6_followAsking_58
  refine ok_loop (I := fun (z : Int32 × Int32 × Int32 × Sg) => StC MX6_followAsking s0 z.2.2.2 ∧ 0 ≤ z.1.toInt ∧ z.1.toInt ≤ 144 ∧ 0 ≤ z.2.1.toInt ∧ z.2.1.toInt ≤ 1 ∧ 0 ≤ z.2.2.1.toInt ∧ z.2.2.1.toInt ≤ 12 ∧ (∀ (v1' : Int32) (sg' : Sg), StC MX6_followAsking s0 sg' → 0 ≤ v1'.toInt → v1'.toInt ≤ 145 → z.1.toInt < v1'.toInt → Ok (PVC MX6_followAsking s0) (r47 (v1', sg')))) (m := fun (z : Int32 × Int32 × Int32 × Sg) => (13 - z.2.2.1.toInt).toNat) _ ?_ ?_ _ ?_
  · intro z hz
    obtain ⟨h0, h1, h2, h3, h4, h5, h6, h7⟩ := hz
    show (13 - z.2.2.1.toInt).toNat < 10000
    omega
  · intro rec z hz hrec
    obtain ⟨v1, v2, v3, sg⟩ := z
    replace hz : StC MX6_followAsking s0 sg ∧ 0 ≤ v1.toInt ∧ v1.toInt ≤ 144 ∧ 0 ≤ v2.toInt ∧ v2.toInt ≤ 1 ∧ 0 ≤ v3.toInt ∧ v3.toInt ≤ 12 ∧ (∀ (v1' : Int32) (sg' : Sg), StC MX6_followAsking s0 sg' → 0 ≤ v1'.toInt → v1'.toInt ≤ 145 → v1.toInt < v1'.toInt → Ok (PVC MX6_followAsking s0) (r47 (v1', sg'))) := hz
    obtain ⟨h0, h1, h2, h3, h4, h5, h6, h7⟩ := hz
    show Ok (PVC MX6_followAsking s0) (fX6_followAsking_58 r47 rec v1 v2 v3 sg)
    exact sX6_followAsking_58 h0 h1 h2 h3 h4 h5 h6 h7 (fun v1' v2' v3' sg' g0 g1 g2 g3 g4 g5 g6 g7 g8 => hrec (v1', v2', v3', sg') ⟨g0, g1, g2, g3, g4, g5, g6, g7⟩ (show (13 - v3'.toInt).toNat < (13 - v3.toInt).toNat by omega))
  · exact ⟨hS, v1l, v1h, v2l, v2h, v3l, v3h, hr47⟩
set_option maxHeartbeats 4000000 in
theorem sX6_followAsking_47 {s0 : Sg} {r47 : (Int32 × Sg) → Option (Sg)} {v1 : Int32} {sg : Sg} (hS : StC MX6_followAsking s0 sg) (v1l : 0 ≤ v1.toInt) (v1h : v1.toInt ≤ 145) (hr47 : ∀ (v1' : Int32) (sg' : Sg), StC MX6_followAsking s0 sg' → 0 ≤ v1'.toInt → v1'.toInt ≤ 145 → v1.toInt < v1'.toInt → Ok (PVC MX6_followAsking s0) (r47 (v1', sg'))) : Ok (PVC MX6_followAsking s0) (fX6_followAsking_47 r47 v1 sg) := by
  unfold fX6_followAsking_47
  refine ok_ite (fun c1 => ?_) (fun c1 => ?_)
  · have k2 : (145 : Int32).toInt = 145 := by decide
    replace c1 := i_le.mp c1
    exact ok_some (mkPVC hS)
  · have k3 : (145 : Int32).toInt = 145 := by decide
    replace c1 := i_nle.mp c1
    have k4 : (0 : Int32).toInt = 0 := by decide
    exact sLX6_followAsking_58 hS (by omega) (by omega) (by omega) (by omega) (by omega) (by omega) hr47
set_option maxHeartbeats 4000000 in
theorem sLX6_followAsking_47 {s0 : Sg} {v1 : Int32} {sg : Sg} (hS : StC MX6_followAsking s0 sg) (v1l : 0 ≤ v1.toInt) (v1h : v1.toInt ≤ 145) : Ok (PVC MX6_followAsking s0) (LX6_followAsking_47 (v1, sg)) := by
  unfold LX6_followAsking_47
  refine ok_loop (I := fun (z : Int32 × Sg) => StC MX6_followAsking s0 z.2 ∧ 0 ≤ z.1.toInt ∧ z.1.toInt ≤ 145) (m := fun (z : Int32 × Sg) => (146 - z.1.toInt).toNat) _ ?_ ?_ _ ?_
  · intro z hz
    obtain ⟨h0, h1, h2⟩ := hz
    show (146 - z.1.toInt).toNat < 10000
    omega
  · intro rec z hz hrec
    obtain ⟨v1, sg⟩ := z
    replace hz : StC MX6_followAsking s0 sg ∧ 0 ≤ v1.toInt ∧ v1.toInt ≤ 145 := hz
    obtain ⟨h0, h1, h2⟩ := hz
    show Ok (PVC MX6_followAsking s0) (fX6_followAsking_47 rec v1 sg)
    exact sX6_followAsking_47 h0 h1 h2 (fun v1' sg' g0 g1 g2 g3 => hrec (v1', sg') ⟨g0, g1, g2⟩ (show (146 - v1'.toInt).toNat < (146 - v1.toInt).toNat by omega))
  · exact ⟨hS, v1l, v1h⟩
set_option maxHeartbeats 4000000 in
theorem sX6_followAsking_2 {s0 : Sg} {r2 : (Int32 × Sg) → Option (Sg)} {v1 : Int32} {sg : Sg} (hS : StC MX6_followAsking s0 sg) (v1l : 0 ≤ v1.toInt) (v1h : v1.toInt ≤ 12) (hr2 : ∀ (v1' : Int32) (sg' : Sg), StC MX6_followAsking s0 sg' → 0 ≤ v1'.toInt → v1'.toInt ≤ 12 → v1.toInt < v1'.toInt → Ok (PVC MX6_followAsking s0) (r2 (v1', sg'))) : Ok (PVC MX6_followAsking s0) (fX6_followAsking_2 r2 v1 sg) := by
  unfold fX6_followAsking_2
  refine ok_ite (fun c1 => ?_) (fun c1 => ?_)
  · have f2 := rdC3_2 hS.1.1
    replace c1 := i_le.mp c1
    have k3 : (0 : Int32).toInt = 0 := by decide
    exact sLX6_followAsking_47 hS (by omega) (by omega)
  · have f4 := rdC3_2 hS.1.1
    replace c1 := i_nle.mp c1
    refine ok_gin (by omega) (by omega) ?_
    have f5 := rdC21 hS.1.1 (j := v1.toNatClampNeg)
    refine ok_lt (fun x3 ex3 => ?_)
    replace ex3 := congrArg Int32.toInt ex3
    refine ok_gin (by omega) (by omega) ?_
    refine ok_lt (fun sg5 esg5 => ?_)
    have hS6 := upC45 hS (by decide) esg5 (by omega) (by omega)
    have e7 : (sg5 3 2).toInt = (sg 3 2).toInt := by rw [esg5]; rfl
    refine bnd2_puC (sX6_blockOf (v1 := v1) hS6.1 (by omega) (by omega)) (fun y6 qy6 zy6 => ?_)
    refine ok_gin (by omega) (by omega) ?_
    refine ok_lt (fun sg10 esg10 => ?_)
    have hS8 := upC46 hS6 (by decide) esg10 (by omega) (by omega)
    have e9 : (sg10 3 2).toInt = (sg5 3 2).toInt := by rw [esg10]; rfl
    refine ok_lt (fun x11 ex11 => ?_)
    replace ex11 : x11.toInt = v1.toInt + 1 := by rw [ex11]; exact add_c 1 (by decide) (by omega) (by omega)
    exact hr2 x11 sg10 hS8 (by omega) (by omega) (by omega)
set_option maxHeartbeats 4000000 in
theorem sLX6_followAsking_2 {s0 : Sg} {v1 : Int32} {sg : Sg} (hS : StC MX6_followAsking s0 sg) (v1l : 0 ≤ v1.toInt) (v1h : v1.toInt ≤ 12) : Ok (PVC MX6_followAsking s0) (LX6_followAsking_2 (v1, sg)) := by
  unfold LX6_followAsking_2
  refine ok_loop (I := fun (z : Int32 × Sg) => StC MX6_followAsking s0 z.2 ∧ 0 ≤ z.1.toInt ∧ z.1.toInt ≤ 12) (m := fun (z : Int32 × Sg) => (13 - z.1.toInt).toNat) _ ?_ ?_ _ ?_
  · intro z hz
    obtain ⟨h0, h1, h2⟩ := hz
    show (13 - z.1.toInt).toNat < 10000
    omega
  · intro rec z hz hrec
    obtain ⟨v1, sg⟩ := z
    replace hz : StC MX6_followAsking s0 sg ∧ 0 ≤ v1.toInt ∧ v1.toInt ≤ 12 := hz
    obtain ⟨h0, h1, h2⟩ := hz
    show Ok (PVC MX6_followAsking s0) (fX6_followAsking_2 rec v1 sg)
    exact sX6_followAsking_2 h0 h1 h2 (fun v1' sg' g0 g1 g2 g3 => hrec (v1', sg') ⟨g0, g1, g2⟩ (show (13 - v1'.toInt).toNat < (13 - v1.toInt).toNat by omega))
  · exact ⟨hS, v1l, v1h⟩
set_option maxHeartbeats 4000000 in
theorem sX6_followAsking {sg : Sg} (hI : IC sg) : Ok (PVC MX6_followAsking sg) (fX6_followAsking sg) := by
  have hS : StC MX6_followAsking sg sg := StC.rf hI
  unfold fX6_followAsking
  have k1 : (0 : Int32).toInt = 0 := by decide
  exact sLX6_followAsking_2 hS (by omega) (by omega)
set_option maxHeartbeats 4000000 in
theorem sJ6_bitCount_0f7a4 {v0 : Int32} {sg : Sg} (hI : IC sg) (v0l : (-1) ≤ v0.toInt) (v0h : v0.toInt ≤ 4095) : Ok (PUC sg 0 63) (fJ6_bitCount_0f7a4 v0 sg) := by
  unfold fJ6_bitCount_0f7a4
  have k1 : (1431655765 : Int32).toInt = 1431655765 := by decide
  have f2 := and_r (a := (v0.toUInt32 >>> ((1 : Int32).toUInt32 &&& (Int32.toUInt32 31))).toInt32) (b := (1431655765 : Int32)) (by omega)
  have f3 := sub_i (a := v0) (b := ((v0.toUInt32 >>> ((1 : Int32).toUInt32 &&& (Int32.toUInt32 31))).toInt32 &&& (1431655765 : Int32))) (by omega) (by omega)
  refine ok_lt (fun x1 ex1 => ?_)
  replace ex1 := congrArg Int32.toInt ex1
  have k4 : (858993459 : Int32).toInt = 858993459 := by decide
  have f5 := and_r (a := x1) (b := (858993459 : Int32)) (by omega)
  have f6 := and_r (a := (x1.toUInt32 >>> ((2 : Int32).toUInt32 &&& (Int32.toUInt32 31))).toInt32) (b := (858993459 : Int32)) (by omega)
  have f7 := add_i (a := (x1 &&& (858993459 : Int32))) (b := ((x1.toUInt32 >>> ((2 : Int32).toUInt32 &&& (Int32.toUInt32 31))).toInt32 &&& (858993459 : Int32))) (by omega) (by omega)
  refine ok_lt (fun x2 ex2 => ?_)
  replace ex2 := congrArg Int32.toInt ex2
  have k8 : (252645135 : Int32).toInt = 252645135 := by decide
  have f9 := and_r (a := (x2 + (x2.toUInt32 >>> ((4 : Int32).toUInt32 &&& (Int32.toUInt32 31))).toInt32)) (b := (252645135 : Int32)) (by omega)
  refine ok_lt (fun x3 ex3 => ?_)
  replace ex3 := congrArg Int32.toInt ex3
  refine ok_lt (fun x4 ex4 => ?_)
  replace ex4 := congrArg Int32.toInt ex4
  refine ok_lt (fun x5 ex5 => ?_)
  replace ex5 := congrArg Int32.toInt ex5
  have k10 : (63 : Int32).toInt = 63 := by decide
  have f11 := and_r (a := x5) (b := (63 : Int32)) (by omega)
  exact ok_some (mkPUC (by omega) (by omega))
set_option maxHeartbeats 4000000 in
theorem sX6_reason_62 {s0 : Sg} {r62 : (Int32 × Sg) → Option (Int64 × Sg)} {v1 : Int32} {sg : Sg} (hS : StC MX6_reason s0 sg) (v1l : 0 ≤ v1.toInt) (v1h : v1.toInt ≤ 12) (hr62 : ∀ (v1' : Int32) (sg' : Sg), StC MX6_reason s0 sg' → 0 ≤ v1'.toInt → v1'.toInt ≤ 12 → v1.toInt < v1'.toInt → Ok (PLC MX6_reason s0) (r62 (v1', sg'))) : Ok (PLC MX6_reason s0) (fX6_reason_62 r62 v1 sg) := by
  unfold fX6_reason_62
  refine ok_ite (fun c1 => ?_) (fun c1 => ?_)
  · have f2 := rdC3_2 hS.1.1
    replace c1 := i_le.mp c1
    exact ok_some (mkPLC hS)
  · have f3 := rdC3_2 hS.1.1
    replace c1 := i_nle.mp c1
    refine ok_gin (by omega) (by omega) ?_
    have f4 := rdC45 hS.1.1 (j := v1.toNatClampNeg)
    refine bnd2_pxC (sX11_isIn (v0 := (sg 45 v1.toNatClampNeg)) (v1 := v1) hS.1 (by omega) (by omega) (by omega) (by omega)) (fun y3 qy3 zy3 xy3 => ?_)
    replace xy3 : y3.toInt = 0 ∨ 0 < ((sg 45 v1.toNatClampNeg) >>> (v1 &&& 31)).toInt := xy3
    refine ok_ite (fun c5 => ?_) (fun c5 => ?_)
    · have k6 : (0 : Int32).toInt = 0 := by decide
      replace c5 := i_eq.mp c5
      refine ok_lt (fun x8 ex8 => ?_)
      replace ex8 : x8.toInt = v1.toInt + 1 := by rw [ex8]; exact add_c 1 (by decide) (by omega) (by omega)
      exact hr62 x8 sg hS (by omega) (by omega) (by omega)
    · have k7 : (0 : Int32).toInt = 0 := by decide
      replace c5 := i_ne.mp c5
      refine ok_gin (by omega) (by omega) ?_
      exact ok_some (mkPLC hS)
set_option maxHeartbeats 4000000 in
theorem sLX6_reason_62 {s0 : Sg} {v1 : Int32} {sg : Sg} (hS : StC MX6_reason s0 sg) (v1l : 0 ≤ v1.toInt) (v1h : v1.toInt ≤ 12) : Ok (PLC MX6_reason s0) (LX6_reason_62 (v1, sg)) := by
  unfold LX6_reason_62
  refine ok_loop (I := fun (z : Int32 × Sg) => StC MX6_reason s0 z.2 ∧ 0 ≤ z.1.toInt ∧ z.1.toInt ≤ 12) (m := fun (z : Int32 × Sg) => (13 - z.1.toInt).toNat) _ ?_ ?_ _ ?_
  · intro z hz
    obtain ⟨h0, h1, h2⟩ := hz
    show (13 - z.1.toInt).toNat < 10000
    omega
  · intro rec z hz hrec
    obtain ⟨v1, sg⟩ := z
    replace hz : StC MX6_reason s0 sg ∧ 0 ≤ v1.toInt ∧ v1.toInt ≤ 12 := hz
    obtain ⟨h0, h1, h2⟩ := hz
    show Ok (PLC MX6_reason s0) (fX6_reason_62 rec v1 sg)
    exact sX6_reason_62 h0 h1 h2 (fun v1' sg' g0 g1 g2 g3 => hrec (v1', sg') ⟨g0, g1, g2⟩ (show (13 - v1'.toInt).toNat < (13 - v1.toInt).toNat by omega))
  · exact ⟨hS, v1l, v1h⟩
set_option maxHeartbeats 4000000 in
theorem sX6_reason_9 {s0 : Sg} {r9 : (Int32 × Sg) → Option (Int64 × Sg)} {v1 : Int32} {sg : Sg} (hS : StC MX6_reason s0 sg) (v1l : 0 ≤ v1.toInt) (v1h : v1.toInt ≤ 12) (hr9 : ∀ (v1' : Int32) (sg' : Sg), StC MX6_reason s0 sg' → 0 ≤ v1'.toInt → v1'.toInt ≤ 12 → v1.toInt < v1'.toInt → Ok (PLC MX6_reason s0) (r9 (v1', sg'))) : Ok (PLC MX6_reason s0) (fX6_reason_9 r9 v1 sg) := by
  unfold fX6_reason_9
  refine ok_ite (fun c1 => ?_) (fun c1 => ?_)
  · have f2 := rdC3_2 hS.1.1
    replace c1 := i_le.mp c1
    refine bnd1_pvC (sX6_followAsking  hS.1) (fun sg2 hsg2 => ?_)
    have e3 : (sg2 3 2).toInt = (sg 3 2).toInt := congrArg Int32.toInt (congrFun (hsg2.fr 3 (by decide)) _)
    have hS4 := hS.tr hsg2 (by decide)
    have k5 : (0 : Int32).toInt = 0 := by decide
    exact sLX6_reason_62 hS4 (by omega) (by omega)
  · have f6 := rdC3_2 hS.1.1
    replace c1 := i_nle.mp c1
    refine ok_gin (by omega) (by omega) ?_
    have f7 := rdC22 hS.1.1 (j := v1.toNatClampNeg)
    refine bnd2_puC (sJ6_bitCount_0f7a4 (v0 := (sg 22 v1.toNatClampNeg)) hS.1 (by omega) (by omega)) (fun y5 qy5 zy5 => ?_)
    refine ok_ite (fun c8 => ?_) (fun c8 => ?_)
    · have k9 : (1 : Int32).toInt = 1 := by decide
      replace c8 := i_le.mp c8
      refine ok_lt (fun x9 ex9 => ?_)
      replace ex9 : x9.toInt = v1.toInt + 1 := by rw [ex9]; exact add_c 1 (by decide) (by omega) (by omega)
      exact hr9 x9 sg hS (by omega) (by omega) (by omega)
    · have k10 : (1 : Int32).toInt = 1 := by decide
      replace c8 := i_nle.mp c8
      refine ok_gin (by omega) (by omega) ?_
      exact ok_some (mkPLC hS)
set_option maxHeartbeats 4000000 in
theorem sLX6_reason_9 {s0 : Sg} {v1 : Int32} {sg : Sg} (hS : StC MX6_reason s0 sg) (v1l : 0 ≤ v1.toInt) (v1h : v1.toInt ≤ 12) : Ok (PLC MX6_reason s0) (LX6_reason_9 (v1, sg)) := by
  unfold LX6_reason_9
  refine ok_loop (I := fun (z : Int32 × Sg) => StC MX6_reason s0 z.2 ∧ 0 ≤ z.1.toInt ∧ z.1.toInt ≤ 12) (m := fun (z : Int32 × Sg) => (13 - z.1.toInt).toNat) _ ?_ ?_ _ ?_
  · intro z hz
    obtain ⟨h0, h1, h2⟩ := hz
    show (13 - z.1.toInt).toNat < 10000
    omega
  · intro rec z hz hrec
    obtain ⟨v1, sg⟩ := z
    replace hz : StC MX6_reason s0 sg ∧ 0 ≤ v1.toInt ∧ v1.toInt ≤ 12 := hz
    obtain ⟨h0, h1, h2⟩ := hz
    show Ok (PLC MX6_reason s0) (fX6_reason_9 rec v1 sg)
    exact sX6_reason_9 h0 h1 h2 (fun v1' sg' g0 g1 g2 g3 => hrec (v1', sg') ⟨g0, g1, g2⟩ (show (13 - v1'.toInt).toNat < (13 - v1.toInt).toNat by omega))
  · exact ⟨hS, v1l, v1h⟩
set_option maxHeartbeats 4000000 in
theorem sX6_reason {sg : Sg} (hI : IC sg) : Ok (PLC MX6_reason sg) (fX6_reason sg) := by
  have hS : StC MX6_reason sg sg := StC.rf hI
  unfold fX6_reason
  refine bnd1_pvxC (sX8_gather  hS.1) (fun sg1 hsg1 xsg1 => ?_)
  replace xsg1 : (sg1 3 1).toInt = (sg1 1 1).toInt := xsg1
  have hS1 := hS.tr hsg1 (by decide)
  have k2 : (0 : Int32).toInt = 0 := by decide
  exact sLX6_reason_9 hS1 (by omega) (by omega)
set_option maxHeartbeats 4000000 in
theorem sX11_why {sg : Sg} (hI : IC sg) : Ok (PLC MX11_why sg) (fX11_why sg) := by
  have hS : StC MX11_why sg sg := StC.rf hI
  unfold fX11_why
  refine bnd2_plC (sX6_reason  hS.1) (fun y1 sg2 hsg2 => ?_)
  have hS1 := hS.tr hsg2 (by decide)
  exact ok_some (mkPLC hS1)
set_option maxHeartbeats 4000000 in
theorem sX11_begin {sg : Sg} (hI : IC sg) : Ok (PLC MX11_begin sg) (fX11_begin sg) := by
  have hS : StC MX11_begin sg sg := StC.rf hI
  unfold fX11_begin
  have f1 := rdC5_0 hS.1.1
  refine ok_lt (fun x1 ex1 => ?_)
  replace ex1 := congrArg Int32.toInt ex1
  have k2 : (0 : Int32).toInt = 0 := by decide
  refine ok_lt (fun sg2 esg2 => ?_)
  have hS3 := upC5_0 hS (by decide) esg2 (by omega) (by omega)
  have e4 : (sg2 5 0).toInt = (0 : Int32).toInt := by rw [esg2]; rfl
  exact ok_some (mkPLC hS3)
set_option maxHeartbeats 4000000 in
theorem sX5_holds_2 {r2 : (Int32 × Int32 × Sg) → Option (Int32 × Sg)} {v1 : Int32} {v2 : Int32} {sg : Sg} (hI : IC sg) (v1l : 0 ≤ v1.toInt) (v1h : v1.toInt ≤ 11) (v2l : 0 ≤ v2.toInt) (v2h : v2.toInt ≤ 12) (hr2 : ∀ (v1' : Int32) (v2' : Int32), 0 ≤ v1'.toInt → v1'.toInt ≤ 11 → 0 ≤ v2'.toInt → v2'.toInt ≤ 12 → v2.toInt < v2'.toInt → Ok (PUC sg 0 1) (r2 (v1', v2', sg))) : Ok (PUC sg 0 1) (fX5_holds_2 r2 v1 v2 sg) := by
  unfold fX5_holds_2
  refine ok_ite (fun c1 => ?_) (fun c1 => ?_)
  · have f2 := rdC5_0 hI.1
    replace c1 := i_le.mp c1
    have k3 : (0 : Int32).toInt = 0 := by decide
    exact ok_some (mkPUC (by omega) (by omega))
  · have f4 := rdC5_0 hI.1
    replace c1 := i_nle.mp c1
    refine ok_gin (by omega) (by omega) ?_
    refine ok_ite (fun c5 => ?_) (fun c5 => ?_)
    · have f6 := rdC31 hI.1 (j := v2.toNatClampNeg)
      replace c5 := i_eq.mp c5
      have k7 : (1 : Int32).toInt = 1 := by decide
      exact ok_some (mkPUC (by omega) (by omega))
    · have f8 := rdC31 hI.1 (j := v2.toNatClampNeg)
      replace c5 := i_ne.mp c5
      refine ok_lt (fun x4 ex4 => ?_)
      replace ex4 : x4.toInt = v2.toInt + 1 := by rw [ex4]; exact add_c 1 (by decide) (by omega) (by omega)
      exact hr2 v1 x4 (by omega) (by omega) (by omega) (by omega) (by omega)
set_option maxHeartbeats 4000000 in
theorem sLX5_holds_2 {v1 : Int32} {v2 : Int32} {sg : Sg} (hI : IC sg) (v1l : 0 ≤ v1.toInt) (v1h : v1.toInt ≤ 11) (v2l : 0 ≤ v2.toInt) (v2h : v2.toInt ≤ 12) : Ok (PUC sg 0 1) (LX5_holds_2 (v1, v2, sg)) := by
  unfold LX5_holds_2
  refine ok_loop (I := fun (z : Int32 × Int32 × Sg) => z.2.2 = sg ∧ 0 ≤ z.1.toInt ∧ z.1.toInt ≤ 11 ∧ 0 ≤ z.2.1.toInt ∧ z.2.1.toInt ≤ 12) (m := fun (z : Int32 × Int32 × Sg) => (13 - z.2.1.toInt).toNat) _ ?_ ?_ _ ?_
  · intro z hz
    obtain ⟨h0, h1, h2, h3, h4⟩ := hz
    show (13 - z.2.1.toInt).toNat < 10000
    omega
  · intro rec z hz hrec
    obtain ⟨v1, v2, sg1⟩ := z
    replace hz : sg1 = sg ∧ 0 ≤ v1.toInt ∧ v1.toInt ≤ 11 ∧ 0 ≤ v2.toInt ∧ v2.toInt ≤ 12 := hz
    obtain ⟨h0, h1, h2, h3, h4⟩ := hz
    subst sg1
    show Ok (PUC sg 0 1) (fX5_holds_2 rec v1 v2 sg)
    exact sX5_holds_2 hI h1 h2 h3 h4 (fun v1' v2' g0 g1 g2 g3 g4 => hrec (v1', v2', sg) ⟨rfl, g0, g1, g2, g3⟩ (show (13 - v2'.toInt).toNat < (13 - v2.toInt).toNat by omega))
  · exact ⟨rfl, v1l, v1h, v2l, v2h⟩
set_option maxHeartbeats 4000000 in
theorem sX5_holds {v1 : Int32} {sg : Sg} (hI : IC sg) (v1l : 0 ≤ v1.toInt) (v1h : v1.toInt ≤ 11) : Ok (PUC sg 0 1) (fX5_holds v1 sg) := by
  unfold fX5_holds
  have k1 : (0 : Int32).toInt = 0 := by decide
  exact sLX5_holds_2 hI (by omega) (by omega) (by omega) (by omega)
set_option maxHeartbeats 4000000 in
theorem sX11_stand {v1 : Int32} {sg : Sg} (hI : IC sg) : Ok (PLC MX11_stand sg) (fX11_stand v1 sg) := by
  have hS : StC MX11_stand sg sg := StC.rf hI
  unfold fX11_stand
  refine bnd2_pxC (sX2_has (v1 := v1) hS.1.1) (fun y1 qy1 zy1 xy1 => ?_)
  replace xy1 : y1.toInt = 0 ∨ (0 ≤ v1.toInt ∧ v1.toInt ≤ 11) := xy1
  refine ok_ite (fun c1 => ?_) (fun c1 => ?_)
  · have k2 : (0 : Int32).toInt = 0 := by decide
    replace c1 := i_eq.mp c1
    exact ok_some (mkPLC hS)
  · have k3 : (0 : Int32).toInt = 0 := by decide
    replace c1 := i_ne.mp c1
    refine bnd2_puC (sX5_holds (v1 := v1) hS.1 (by omega) (by omega)) (fun y5 qy5 zy5 => ?_)
    refine ok_ite (fun c4 => ?_) (fun c4 => ?_)
    · replace c4 := i_eq.mp c4
      refine ok_ite (fun c5 => ?_) (fun c5 => ?_)
      · have f6 := rdC5_0 hS.1.1
        have k7 : (12 : Int32).toInt = 12 := by decide
        replace c5 := i_lt.mp c5
        refine bnd1_pvC (sX5_append (v1 := v1) hS.1 (by omega) (by omega)) (fun sg10 hsg10 => ?_)
        have hS8 := hS.tr hsg10 (by decide)
        exact ok_some (mkPLC hS8)
      · have f9 := rdC5_0 hS.1.1
        have k10 : (12 : Int32).toInt = 12 := by decide
        replace c5 := i_nlt.mp c5
        exact ok_some (mkPLC hS)
    · replace c4 := i_ne.mp c4
      exact ok_some (mkPLC hS)
set_option maxHeartbeats 4000000 in
theorem sX5_isPlace {v1 : Int32} {sg : Sg} (hI : IC sg) : Ok (PXC sg 0 1 (fun (y : Int) => y = 0 ∨ (0 ≤ v1.toInt ∧ v1.toInt ≤ 11))) (fX5_isPlace v1 sg) := by
  unfold fX5_isPlace
  refine ok_ite (fun c1 => ?_) (fun c1 => ?_)
  · have k2 : (0 : Int32).toInt = 0 := by decide
    replace c1 := i_lt.mp c1
    exact ok_some (mkPXC (by omega) (by omega) (show (0 : Int32).toInt = 0 ∨ (0 ≤ v1.toInt ∧ v1.toInt ≤ 11) by omega))
  · have k3 : (0 : Int32).toInt = 0 := by decide
    replace c1 := i_nlt.mp c1
    refine ok_ite (fun c4 => ?_) (fun c4 => ?_)
    · have f5 := rdC5_0 hI.1
      replace c4 := i_le.mp c4
      exact ok_some (mkPXC (by omega) (by omega) (show (0 : Int32).toInt = 0 ∨ (0 ≤ v1.toInt ∧ v1.toInt ≤ 11) by omega))
    · have f6 := rdC5_0 hI.1
      replace c4 := i_nle.mp c4
      have k7 : (1 : Int32).toInt = 1 := by decide
      exact ok_some (mkPXC (by omega) (by omega) (show (1 : Int32).toInt = 0 ∨ (0 ≤ v1.toInt ∧ v1.toInt ≤ 11) by omega))
set_option maxHeartbeats 4000000 in
theorem sX11_order {v1 : Int32} {sg : Sg} (hI : IC sg) : Ok (PUlC sg) (fX11_order v1 sg) := by
  unfold fX11_order
  refine bnd2_pxC (sX5_isPlace (v1 := v1) hI) (fun y1 qy1 zy1 xy1 => ?_)
  replace xy1 : y1.toInt = 0 ∨ (0 ≤ v1.toInt ∧ v1.toInt ≤ 11) := xy1
  refine ok_ite (fun c1 => ?_) (fun c1 => ?_)
  · have k2 : (0 : Int32).toInt = 0 := by decide
    replace c1 := i_eq.mp c1
    exact ok_some (mkPUlC)
  · have k3 : (0 : Int32).toInt = 0 := by decide
    replace c1 := i_ne.mp c1
    refine ok_gin (by omega) (by omega) ?_
    exact ok_some (mkPUlC)
set_option maxHeartbeats 4000000 in
theorem sX11_shift_c31_32 {s0 : Sg} {r32 : (Int32 × Int32 × Int32 × Sg) → Option (Sg)} {v2 : Int32} {v3 : Int32} {v4 : Int32} {sg : Sg} (hS : StC MX11_shift_c31 s0 sg) (v2l : 0 ≤ v2.toInt) (v2h : v2.toInt ≤ 11) (v3l : 0 ≤ v3.toInt) (v3h : v3.toInt ≤ 11) (v4l : 0 ≤ v4.toInt) (v4h : v4.toInt ≤ 11) (hr32 : ∀ (v2' : Int32) (v3' : Int32) (v4' : Int32) (sg' : Sg), StC MX11_shift_c31 s0 sg' → 0 ≤ v2'.toInt → v2'.toInt ≤ 11 → 0 ≤ v3'.toInt → v3'.toInt ≤ 11 → 0 ≤ v4'.toInt → v4'.toInt ≤ 11 → v4'.toInt < v4.toInt → Ok (PVC MX11_shift_c31 s0) (r32 (v2', v3', v4', sg'))) : Ok (PVC MX11_shift_c31 s0) (fX11_shift_c31_32 r32 v2 v3 v4 sg) := by
  unfold fX11_shift_c31_32
  refine ok_ite (fun c1 => ?_) (fun c1 => ?_)
  · replace c1 := i_le.mp c1
    refine ok_gin (by omega) (by omega) ?_
    refine ok_lt (fun sg3 esg3 => ?_)
    have hS2 := upC31 hS (by decide) esg3 (by omega) (by omega)
    exact ok_some (mkPVC hS2)
  · replace c1 := i_nle.mp c1
    refine ok_lt (fun x4 ex4 => ?_)
    replace ex4 : x4.toInt = v4.toInt - 1 := by rw [ex4]; exact sub_c 1 (by decide) (by omega) (by omega)
    refine ok_gin (by omega) (by omega) ?_
    have f3 := rdC31 hS.1.1 (j := x4.toNatClampNeg)
    refine ok_lt (fun x6 ex6 => ?_)
    replace ex6 := congrArg Int32.toInt ex6
    refine ok_gin (by omega) (by omega) ?_
    refine ok_lt (fun sg8 esg8 => ?_)
    have hS4 := upC31 hS (by decide) esg8 (by omega) (by omega)
    refine ok_lt (fun x9 ex9 => ?_)
    replace ex9 : x9.toInt = v4.toInt + (-1) := by rw [ex9]; exact add_c (-1) (by decide) (by omega) (by omega)
    exact hr32 v2 v3 x9 sg8 hS4 (by omega) (by omega) (by omega) (by omega) (by omega) (by omega) (by omega)
set_option maxHeartbeats 4000000 in
theorem sLX11_shift_c31_32 {s0 : Sg} {v2 : Int32} {v3 : Int32} {v4 : Int32} {sg : Sg} (hS : StC MX11_shift_c31 s0 sg) (v2l : 0 ≤ v2.toInt) (v2h : v2.toInt ≤ 11) (v3l : 0 ≤ v3.toInt) (v3h : v3.toInt ≤ 11) (v4l : 0 ≤ v4.toInt) (v4h : v4.toInt ≤ 11) : Ok (PVC MX11_shift_c31 s0) (LX11_shift_c31_32 (v2, v3, v4, sg)) := by
  unfold LX11_shift_c31_32
  refine ok_loop (I := fun (z : Int32 × Int32 × Int32 × Sg) => StC MX11_shift_c31 s0 z.2.2.2 ∧ 0 ≤ z.1.toInt ∧ z.1.toInt ≤ 11 ∧ 0 ≤ z.2.1.toInt ∧ z.2.1.toInt ≤ 11 ∧ 0 ≤ z.2.2.1.toInt ∧ z.2.2.1.toInt ≤ 11) (m := fun (z : Int32 × Int32 × Int32 × Sg) => (z.2.2.1.toInt - (-1)).toNat) _ ?_ ?_ _ ?_
  · intro z hz
    obtain ⟨h0, h1, h2, h3, h4, h5, h6⟩ := hz
    show (z.2.2.1.toInt - (-1)).toNat < 10000
    omega
  · intro rec z hz hrec
    obtain ⟨v2, v3, v4, sg⟩ := z
    replace hz : StC MX11_shift_c31 s0 sg ∧ 0 ≤ v2.toInt ∧ v2.toInt ≤ 11 ∧ 0 ≤ v3.toInt ∧ v3.toInt ≤ 11 ∧ 0 ≤ v4.toInt ∧ v4.toInt ≤ 11 := hz
    obtain ⟨h0, h1, h2, h3, h4, h5, h6⟩ := hz
    show Ok (PVC MX11_shift_c31 s0) (fX11_shift_c31_32 rec v2 v3 v4 sg)
    exact sX11_shift_c31_32 h0 h1 h2 h3 h4 h5 h6 (fun v2' v3' v4' sg' g0 g1 g2 g3 g4 g5 g6 g7 => hrec (v2', v3', v4', sg') ⟨g0, g1, g2, g3, g4, g5, g6⟩ (show (v4'.toInt - (-1)).toNat < (v4.toInt - (-1)).toNat by omega))
  · exact ⟨hS, v2l, v2h, v3l, v3h, v4l, v4h⟩
set_option maxHeartbeats 4000000 in
theorem sX11_shift_c31_7 {s0 : Sg} {r7 : (Int32 × Int32 × Int32 × Int32 × Sg) → Option (Sg)} {v1 : Int32} {v2 : Int32} {v3 : Int32} {v4 : Int32} {sg : Sg} (hS : StC MX11_shift_c31 s0 sg) (v1l : 0 ≤ v1.toInt) (v1h : v1.toInt ≤ 11) (v2l : 0 ≤ v2.toInt) (v2h : v2.toInt ≤ 11) (v3l : 0 ≤ v3.toInt) (v3h : v3.toInt ≤ 11) (v4l : 0 ≤ v4.toInt) (v4h : v4.toInt ≤ 11) (hr7 : ∀ (v1' : Int32) (v2' : Int32) (v3' : Int32) (v4' : Int32) (sg' : Sg), StC MX11_shift_c31 s0 sg' → 0 ≤ v1'.toInt → v1'.toInt ≤ 11 → 0 ≤ v2'.toInt → v2'.toInt ≤ 11 → 0 ≤ v3'.toInt → v3'.toInt ≤ 11 → 0 ≤ v4'.toInt → v4'.toInt ≤ 11 → v4.toInt < v4'.toInt → Ok (PVC MX11_shift_c31 s0) (r7 (v1', v2', v3', v4', sg'))) : Ok (PVC MX11_shift_c31 s0) (fX11_shift_c31_7 r7 v1 v2 v3 v4 sg) := by
  unfold fX11_shift_c31_7
  refine ok_ite (fun c1 => ?_) (fun c1 => ?_)
  · replace c1 := i_le.mp c1
    exact sLX11_shift_c31_32 hS (by omega) (by omega) (by omega) (by omega) (by omega) (by omega)
  · replace c1 := i_nle.mp c1
    refine ok_lt (fun x2 ex2 => ?_)
    replace ex2 : x2.toInt = v4.toInt + 1 := by rw [ex2]; exact add_c 1 (by decide) (by omega) (by omega)
    refine ok_gin (by omega) (by omega) ?_
    have f2 := rdC31 hS.1.1 (j := x2.toNatClampNeg)
    refine ok_lt (fun x4 ex4 => ?_)
    replace ex4 := congrArg Int32.toInt ex4
    refine ok_gin (by omega) (by omega) ?_
    refine ok_lt (fun sg6 esg6 => ?_)
    have hS3 := upC31 hS (by decide) esg6 (by omega) (by omega)
    refine ok_lt (fun x7 ex7 => ?_)
    replace ex7 : x7.toInt = v4.toInt + 1 := by rw [ex7]; exact add_c 1 (by decide) (by omega) (by omega)
    exact hr7 v1 v2 v3 x7 sg6 hS3 (by omega) (by omega) (by omega) (by omega) (by omega) (by omega) (by omega) (by omega) (by omega)
set_option maxHeartbeats 4000000 in
theorem sLX11_shift_c31_7 {s0 : Sg} {v1 : Int32} {v2 : Int32} {v3 : Int32} {v4 : Int32} {sg : Sg} (hS : StC MX11_shift_c31 s0 sg) (v1l : 0 ≤ v1.toInt) (v1h : v1.toInt ≤ 11) (v2l : 0 ≤ v2.toInt) (v2h : v2.toInt ≤ 11) (v3l : 0 ≤ v3.toInt) (v3h : v3.toInt ≤ 11) (v4l : 0 ≤ v4.toInt) (v4h : v4.toInt ≤ 11) : Ok (PVC MX11_shift_c31 s0) (LX11_shift_c31_7 (v1, v2, v3, v4, sg)) := by
  unfold LX11_shift_c31_7
  refine ok_loop (I := fun (z : Int32 × Int32 × Int32 × Int32 × Sg) => StC MX11_shift_c31 s0 z.2.2.2.2 ∧ 0 ≤ z.1.toInt ∧ z.1.toInt ≤ 11 ∧ 0 ≤ z.2.1.toInt ∧ z.2.1.toInt ≤ 11 ∧ 0 ≤ z.2.2.1.toInt ∧ z.2.2.1.toInt ≤ 11 ∧ 0 ≤ z.2.2.2.1.toInt ∧ z.2.2.2.1.toInt ≤ 11) (m := fun (z : Int32 × Int32 × Int32 × Int32 × Sg) => (12 - z.2.2.2.1.toInt).toNat) _ ?_ ?_ _ ?_
  · intro z hz
    obtain ⟨h0, h1, h2, h3, h4, h5, h6, h7, h8⟩ := hz
    show (12 - z.2.2.2.1.toInt).toNat < 10000
    omega
  · intro rec z hz hrec
    obtain ⟨v1, v2, v3, v4, sg⟩ := z
    replace hz : StC MX11_shift_c31 s0 sg ∧ 0 ≤ v1.toInt ∧ v1.toInt ≤ 11 ∧ 0 ≤ v2.toInt ∧ v2.toInt ≤ 11 ∧ 0 ≤ v3.toInt ∧ v3.toInt ≤ 11 ∧ 0 ≤ v4.toInt ∧ v4.toInt ≤ 11 := hz
    obtain ⟨h0, h1, h2, h3, h4, h5, h6, h7, h8⟩ := hz
    show Ok (PVC MX11_shift_c31 s0) (fX11_shift_c31_7 rec v1 v2 v3 v4 sg)
    exact sX11_shift_c31_7 h0 h1 h2 h3 h4 h5 h6 h7 h8 (fun v1' v2' v3' v4' sg' g0 g1 g2 g3 g4 g5 g6 g7 g8 g9 => hrec (v1', v2', v3', v4', sg') ⟨g0, g1, g2, g3, g4, g5, g6, g7, g8⟩ (show (12 - v4'.toInt).toNat < (12 - v4.toInt).toNat by omega))
  · exact ⟨hS, v1l, v1h, v2l, v2h, v3l, v3h, v4l, v4h⟩
set_option maxHeartbeats 4000000 in
theorem sX11_shift_c31 {v1 : Int32} {v2 : Int32} {sg : Sg} (hI : IC sg) (v1l : 0 ≤ v1.toInt) (v1h : v1.toInt ≤ 11) (v2l : 0 ≤ v2.toInt) (v2h : v2.toInt ≤ 11) : Ok (PVC MX11_shift_c31 sg) (fX11_shift_c31 v1 v2 sg) := by
  have hS : StC MX11_shift_c31 sg sg := StC.rf hI
  unfold fX11_shift_c31
  refine ok_gin (by omega) (by omega) ?_
  have f1 := rdC31 hS.1.1 (j := v1.toNatClampNeg)
  refine ok_lt (fun x2 ex2 => ?_)
  replace ex2 := congrArg Int32.toInt ex2
  exact sLX11_shift_c31_7 hS (by omega) (by omega) (by omega) (by omega) (by omega) (by omega) (by omega) (by omega)
