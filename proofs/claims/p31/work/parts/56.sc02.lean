set_option maxHeartbeats 4000000 in
theorem sX4_prepare_130 {s0 : Sg} {r35 : (Int32 × Sg) → Option (Sg)} {r130 : (Int32 × Int32 × Int32 × Int32 × Sg) → Option (Sg)} {v1 : Int32} {v2 : Int32} {v3 : Int32} {v4 : Int32} {sg : Sg} (hS : StC MX4_prepare s0 sg) (v1l : 0 ≤ v1.toInt) (v1h : v1.toInt ≤ 11) (v2l : 0 ≤ v2.toInt) (v2h : v2.toInt ≤ 1) (v3l : 0 ≤ v3.toInt) (v3h : v3.toInt ≤ 5) (v4l : 0 ≤ v4.toInt) (v4h : v4.toInt ≤ 12) (xq : (sg 3 1).toInt = (sg 1 1).toInt) (hr35 : ∀ (v1' : Int32) (sg' : Sg), StC MX4_prepare s0 sg' → 0 ≤ v1'.toInt → v1'.toInt ≤ 12 → ((sg' 3 1).toInt = (sg' 1 1).toInt) → v1.toInt < v1'.toInt → Ok (PVXC MX4_prepare s0 (fun r => (r 3 1).toInt = (r 1 1).toInt)) (r35 (v1', sg'))) (hr130 : ∀ (v1' : Int32) (v2' : Int32) (v3' : Int32) (v4' : Int32) (sg' : Sg), StC MX4_prepare s0 sg' → 0 ≤ v1'.toInt → v1'.toInt ≤ 11 → 0 ≤ v2'.toInt → v2'.toInt ≤ 1 → 0 ≤ v3'.toInt → v3'.toInt ≤ 5 → 0 ≤ v4'.toInt → v4'.toInt ≤ 12 → ((sg' 3 1).toInt = (sg' 1 1).toInt) → (∀ (v1'' : Int32) (sg'' : Sg), StC MX4_prepare s0 sg'' → 0 ≤ v1''.toInt → v1''.toInt ≤ 12 → ((sg'' 3 1).toInt = (sg'' 1 1).toInt) → v1'.toInt < v1''.toInt → Ok (PVXC MX4_prepare s0 (fun r => (r 3 1).toInt = (r 1 1).toInt)) (r35 (v1'', sg''))) → v4.toInt < v4'.toInt → Ok (PVXC MX4_prepare s0 (fun r => (r 3 1).toInt = (r 1 1).toInt)) (r130 (v1', v2', v3', v4', sg'))) : Ok (PVXC MX4_prepare s0 (fun r => (r 3 1).toInt = (r 1 1).toInt)) (fX4_prepare_130 r35 r130 v1 v2 v3 v4 sg) := by
  unfold fX4_prepare_130
  refine ok_ite (fun c1 => ?_) (fun c1 => ?_)
  · have f2 := rdC3_2 hS.1.1
    replace c1 := i_le.mp c1
    refine ok_lt (fun x2 ex2 => ?_)
    replace ex2 : x2.toInt = v1.toInt + 1 := by rw [ex2]; exact add_c 1 (by decide) (by omega) (by omega)
    exact hr35 x2 sg hS (by omega) (by omega) (by omega) (by omega)
  · have f3 := rdC3_2 hS.1.1
    replace c1 := i_nle.mp c1
    refine ok_ite (fun c4 => ?_) (fun c4 => ?_)
    · have k5 : (0 : Int32).toInt = 0 := by decide
      replace c4 := i_eq.mp c4
      refine bnd2_puC (sX8_peckOf (v1 := v4) (v2 := v1) hS.1 (by omega) (by omega) (by omega) (by omega)) (fun y4 qy4 zy4 => ?_)
      have k6 : (64 : Int32).toInt = 64 := by decide
      have f7 := mul_r (a := v4) (b := (64 : Int32)) 64 (by decide) (by omega) (by omega)
      refine bnd1_pvC (sX4_spreadSum_c26 (v1 := (v4 * (64 : Int32))) (v2 := v3) (v3 := y4) hS.1 (by omega) (by omega) (by omega) (by omega) (by omega) (by omega)) (fun sg7 hsg7 => ?_)
      have e8 : (sg7 1 1).toInt = (sg 1 1).toInt := congrArg Int32.toInt (congrFun (hsg7.fr 1 (by decide)) _)
      have e9 : (sg7 3 1).toInt = (sg 3 1).toInt := congrArg Int32.toInt (congrFun (hsg7.fr 3 (by decide)) _)
      have e10 : (sg7 3 2).toInt = (sg 3 2).toInt := congrArg Int32.toInt (congrFun (hsg7.fr 3 (by decide)) _)
      have hS11 := hS.tr hsg7 (by decide)
      refine ok_lt (fun x9 ex9 => ?_)
      replace ex9 : x9.toInt = v4.toInt + 1 := by rw [ex9]; exact add_c 1 (by decide) (by omega) (by omega)
      exact hr130 v1 v2 v3 x9 sg7 hS11 (by omega) (by omega) (by omega) (by omega) (by omega) (by omega) (by omega) (by omega) (by omega) hr35 (by omega)
    · have k12 : (0 : Int32).toInt = 0 := by decide
      replace c4 := i_ne.mp c4
      refine bnd2_puC (sX8_peckOf (v1 := v4) (v2 := v1) hS.1 (by omega) (by omega) (by omega) (by omega)) (fun y10 qy10 zy10 => ?_)
      have k13 : (64 : Int32).toInt = 64 := by decide
      have f14 := mul_r (a := v4) (b := (64 : Int32)) 64 (by decide) (by omega) (by omega)
      refine bnd1_pvC (sX4_spreadSum_c25 (v1 := (v4 * (64 : Int32))) (v2 := v3) (v3 := y10) hS.1 (by omega) (by omega) (by omega) (by omega) (by omega) (by omega)) (fun sg13 hsg13 => ?_)
      have e15 : (sg13 1 1).toInt = (sg 1 1).toInt := congrArg Int32.toInt (congrFun (hsg13.fr 1 (by decide)) _)
      have e16 : (sg13 3 1).toInt = (sg 3 1).toInt := congrArg Int32.toInt (congrFun (hsg13.fr 3 (by decide)) _)
      have e17 : (sg13 3 2).toInt = (sg 3 2).toInt := congrArg Int32.toInt (congrFun (hsg13.fr 3 (by decide)) _)
      have hS18 := hS.tr hsg13 (by decide)
      refine ok_lt (fun x15 ex15 => ?_)
      replace ex15 : x15.toInt = v4.toInt + 1 := by rw [ex15]; exact add_c 1 (by decide) (by omega) (by omega)
      exact hr130 v1 v2 v3 x15 sg13 hS18 (by omega) (by omega) (by omega) (by omega) (by omega) (by omega) (by omega) (by omega) (by omega) hr35 (by omega)
set_option maxHeartbeats 4000000 in
theorem sLX4_prepare_130 {s0 : Sg} {r35 : (Int32 × Sg) → Option (Sg)} {v1 : Int32} {v2 : Int32} {v3 : Int32} {v4 : Int32} {sg : Sg} (hS : StC MX4_prepare s0 sg) (v1l : 0 ≤ v1.toInt) (v1h : v1.toInt ≤ 11) (v2l : 0 ≤ v2.toInt) (v2h : v2.toInt ≤ 1) (v3l : 0 ≤ v3.toInt) (v3h : v3.toInt ≤ 5) (v4l : 0 ≤ v4.toInt) (v4h : v4.toInt ≤ 12) (xq : ((sg 3 1).toInt = (sg 1 1).toInt)) (hr35 : ∀ (v1' : Int32) (sg' : Sg), StC MX4_prepare s0 sg' → 0 ≤ v1'.toInt → v1'.toInt ≤ 12 → ((sg' 3 1).toInt = (sg' 1 1).toInt) → v1.toInt < v1'.toInt → Ok (PVXC MX4_prepare s0 (fun r => (r 3 1).toInt = (r 1 1).toInt)) (r35 (v1', sg'))) : Ok (PVXC MX4_prepare s0 (fun r => (r 3 1).toInt = (r 1 1).toInt)) (LX4_prepare_130 r35 (v1, v2, v3, v4, sg)) := by
  unfold LX4_prepare_130
  refine ok_loop (I := fun (z : Int32 × Int32 × Int32 × Int32 × Sg) => StC MX4_prepare s0 z.2.2.2.2 ∧ 0 ≤ z.1.toInt ∧ z.1.toInt ≤ 11 ∧ 0 ≤ z.2.1.toInt ∧ z.2.1.toInt ≤ 1 ∧ 0 ≤ z.2.2.1.toInt ∧ z.2.2.1.toInt ≤ 5 ∧ 0 ≤ z.2.2.2.1.toInt ∧ z.2.2.2.1.toInt ≤ 12 ∧ ((z.2.2.2.2 3 1).toInt = (z.2.2.2.2 1 1).toInt) ∧ (∀ (v1' : Int32) (sg' : Sg), StC MX4_prepare s0 sg' → 0 ≤ v1'.toInt → v1'.toInt ≤ 12 → ((sg' 3 1).toInt = (sg' 1 1).toInt) → z.1.toInt < v1'.toInt → Ok (PVXC MX4_prepare s0 (fun r => (r 3 1).toInt = (r 1 1).toInt)) (r35 (v1', sg')))) (m := fun (z : Int32 × Int32 × Int32 × Int32 × Sg) => (13 - z.2.2.2.1.toInt).toNat) _ ?_ ?_ _ ?_
  · intro z hz
    obtain ⟨h0, h1, h2, h3, h4, h5, h6, h7, h8, h9, h10⟩ := hz
    show (13 - z.2.2.2.1.toInt).toNat < 10000
    omega
  · intro rec z hz hrec
    obtain ⟨v1, v2, v3, v4, sg⟩ := z
    replace hz : StC MX4_prepare s0 sg ∧ 0 ≤ v1.toInt ∧ v1.toInt ≤ 11 ∧ 0 ≤ v2.toInt ∧ v2.toInt ≤ 1 ∧ 0 ≤ v3.toInt ∧ v3.toInt ≤ 5 ∧ 0 ≤ v4.toInt ∧ v4.toInt ≤ 12 ∧ ((sg 3 1).toInt = (sg 1 1).toInt) ∧ (∀ (v1' : Int32) (sg' : Sg), StC MX4_prepare s0 sg' → 0 ≤ v1'.toInt → v1'.toInt ≤ 12 → ((sg' 3 1).toInt = (sg' 1 1).toInt) → v1.toInt < v1'.toInt → Ok (PVXC MX4_prepare s0 (fun r => (r 3 1).toInt = (r 1 1).toInt)) (r35 (v1', sg'))) := hz
    obtain ⟨h0, h1, h2, h3, h4, h5, h6, h7, h8, h9, h10⟩ := hz
    show Ok (PVXC MX4_prepare s0 (fun r => (r 3 1).toInt = (r 1 1).toInt)) (fX4_prepare_130 r35 rec v1 v2 v3 v4 sg)
    exact sX4_prepare_130 h0 h1 h2 h3 h4 h5 h6 h7 h8 h9 h10 (fun v1' v2' v3' v4' sg' g0 g1 g2 g3 g4 g5 g6 g7 g8 g9 g10 g11 => hrec (v1', v2', v3', v4', sg') ⟨g0, g1, g2, g3, g4, g5, g6, g7, g8, g9, g10⟩ (show (13 - v4'.toInt).toNat < (13 - v4.toInt).toNat by omega))
  · exact ⟨hS, v1l, v1h, v2l, v2h, v3l, v3h, v4l, v4h, xq, hr35⟩
set_option maxHeartbeats 4000000 in
theorem sX4_prepare_70 {s0 : Sg} {r35 : (Int32 × Sg) → Option (Sg)} {v1 : Int32} {v2 : Int32} {w0 : Int32} {sg : Sg} (hS : StC MX4_prepare s0 sg) (v1l : 0 ≤ v1.toInt) (v1h : v1.toInt ≤ 11) (v2l : 0 ≤ v2.toInt) (v2h : v2.toInt ≤ 1) (w0l : 0 ≤ w0.toInt) (w0h : w0.toInt ≤ 5) (xq : (sg 3 1).toInt = (sg 1 1).toInt) (hr35 : ∀ (v1' : Int32) (sg' : Sg), StC MX4_prepare s0 sg' → 0 ≤ v1'.toInt → v1'.toInt ≤ 12 → ((sg' 3 1).toInt = (sg' 1 1).toInt) → v1.toInt < v1'.toInt → Ok (PVXC MX4_prepare s0 (fun r => (r 3 1).toInt = (r 1 1).toInt)) (r35 (v1', sg'))) : Ok (PVXC MX4_prepare s0 (fun r => (r 3 1).toInt = (r 1 1).toInt)) (fX4_prepare_70 r35 v1 v2 w0 sg) := by
  unfold fX4_prepare_70
  refine ok_ite (fun c1 => ?_) (fun c1 => ?_)
  · have k2 : (0 : Int32).toInt = 0 := by decide
    replace c1 := i_eq.mp c1
    refine ok_gin (by omega) (by omega) ?_
    have f3 := rdC21 hS.1.1 (j := v1.toNatClampNeg)
    refine bnd1_pvC (sX4_spreadUnion_c28 (v1 := w0) (v2 := (sg 21 v1.toNatClampNeg)) hS.1 (by omega) (by omega) (by omega) (by omega)) (fun sg3 hsg3 => ?_)
    have e4 : (sg3 1 1).toInt = (sg 1 1).toInt := congrArg Int32.toInt (congrFun (hsg3.fr 1 (by decide)) _)
    have e5 : (sg3 3 1).toInt = (sg 3 1).toInt := congrArg Int32.toInt (congrFun (hsg3.fr 3 (by decide)) _)
    have hS6 := hS.tr hsg3 (by decide)
    refine ok_ite (fun c7 => ?_) (fun c7 => ?_)
    · replace c7 := i_eq.mp c7
      refine ok_gin (by omega) (by omega) ?_
      have f8 := rdC22 hS6.1.1 (j := v1.toNatClampNeg)
      refine bnd1_pvC (sX4_spreadUnion_c30 (v1 := w0) (v2 := (sg3 22 v1.toNatClampNeg)) hS6.1 (by omega) (by omega) (by omega) (by omega)) (fun sg7 hsg7 => ?_)
      have e9 : (sg7 1 1).toInt = (sg3 1 1).toInt := congrArg Int32.toInt (congrFun (hsg7.fr 1 (by decide)) _)
      have e10 : (sg7 3 1).toInt = (sg3 3 1).toInt := congrArg Int32.toInt (congrFun (hsg7.fr 3 (by decide)) _)
      have hS11 := hS6.tr hsg7 (by decide)
      exact sLX4_prepare_130 hS11 (by omega) (by omega) (by omega) (by omega) (by omega) (by omega) (by omega) (by omega) (by omega) hr35
    · replace c7 := i_ne.mp c7
      exfalso; omega
  · have k12 : (0 : Int32).toInt = 0 := by decide
    replace c1 := i_ne.mp c1
    refine ok_gin (by omega) (by omega) ?_
    have f13 := rdC21 hS.1.1 (j := v1.toNatClampNeg)
    refine bnd1_pvC (sX4_spreadUnion_c27 (v1 := w0) (v2 := (sg 21 v1.toNatClampNeg)) hS.1 (by omega) (by omega) (by omega) (by omega)) (fun sg13 hsg13 => ?_)
    have e14 : (sg13 1 1).toInt = (sg 1 1).toInt := congrArg Int32.toInt (congrFun (hsg13.fr 1 (by decide)) _)
    have e15 : (sg13 3 1).toInt = (sg 3 1).toInt := congrArg Int32.toInt (congrFun (hsg13.fr 3 (by decide)) _)
    have hS16 := hS.tr hsg13 (by decide)
    refine ok_ite (fun c17 => ?_) (fun c17 => ?_)
    · replace c17 := i_eq.mp c17
      exfalso; omega
    · replace c17 := i_ne.mp c17
      refine ok_gin (by omega) (by omega) ?_
      have f18 := rdC22 hS16.1.1 (j := v1.toNatClampNeg)
      refine bnd1_pvC (sX4_spreadUnion_c29 (v1 := w0) (v2 := (sg13 22 v1.toNatClampNeg)) hS16.1 (by omega) (by omega) (by omega) (by omega)) (fun sg20 hsg20 => ?_)
      have e19 : (sg20 1 1).toInt = (sg13 1 1).toInt := congrArg Int32.toInt (congrFun (hsg20.fr 1 (by decide)) _)
      have e20 : (sg20 3 1).toInt = (sg13 3 1).toInt := congrArg Int32.toInt (congrFun (hsg20.fr 3 (by decide)) _)
      have hS21 := hS16.tr hsg20 (by decide)
      exact sLX4_prepare_130 hS21 (by omega) (by omega) (by omega) (by omega) (by omega) (by omega) (by omega) (by omega) (by omega) hr35
set_option maxHeartbeats 4000000 in
theorem sX4_prepare_57 {s0 : Sg} {r35 : (Int32 × Sg) → Option (Sg)} {v1 : Int32} {w0 : Int32} {sg : Sg} (hS : StC MX4_prepare s0 sg) (v1l : 0 ≤ v1.toInt) (v1h : v1.toInt ≤ 11) (w0l : 0 ≤ w0.toInt) (w0h : w0.toInt ≤ 1) (xb : (w0.toInt = 0 ∧ 6 ≤ v1.toInt) ∨ (w0.toInt ≠ 0 ∧ v1.toInt ≤ 5)) (xq : (sg 3 1).toInt = (sg 1 1).toInt) (hr35 : ∀ (v1' : Int32) (sg' : Sg), StC MX4_prepare s0 sg' → 0 ≤ v1'.toInt → v1'.toInt ≤ 12 → ((sg' 3 1).toInt = (sg' 1 1).toInt) → v1.toInt < v1'.toInt → Ok (PVXC MX4_prepare s0 (fun r => (r 3 1).toInt = (r 1 1).toInt)) (r35 (v1', sg'))) : Ok (PVXC MX4_prepare s0 (fun r => (r 3 1).toInt = (r 1 1).toInt)) (fX4_prepare_57 r35 v1 w0 sg) := by
  unfold fX4_prepare_57
  refine ok_ite (fun c1 => ?_) (fun c1 => ?_)
  · have k2 : (0 : Int32).toInt = 0 := by decide
    replace c1 := i_eq.mp c1
    have k3 : (6 : Int32).toInt = 6 := by decide
    have f4 := sub_i (a := v1) (b := (6 : Int32)) (by omega) (by omega)
    exact sX4_prepare_70 hS (by omega) (by omega) (by omega) (by omega) (by omega) (by omega) (by omega) hr35
  · have k5 : (0 : Int32).toInt = 0 := by decide
    replace c1 := i_ne.mp c1
    exact sX4_prepare_70 hS (by omega) (by omega) (by omega) (by omega) (by omega) (by omega) (by omega) hr35
set_option maxHeartbeats 4000000 in
theorem sX4_prepare_35 {s0 : Sg} {r35 : (Int32 × Sg) → Option (Sg)} {v1 : Int32} {sg : Sg} (hS : StC MX4_prepare s0 sg) (v1l : 0 ≤ v1.toInt) (v1h : v1.toInt ≤ 12) (xq : (sg 3 1).toInt = (sg 1 1).toInt) (hr35 : ∀ (v1' : Int32) (sg' : Sg), StC MX4_prepare s0 sg' → 0 ≤ v1'.toInt → v1'.toInt ≤ 12 → ((sg' 3 1).toInt = (sg' 1 1).toInt) → v1.toInt < v1'.toInt → Ok (PVXC MX4_prepare s0 (fun r => (r 3 1).toInt = (r 1 1).toInt)) (r35 (v1', sg'))) : Ok (PVXC MX4_prepare s0 (fun r => (r 3 1).toInt = (r 1 1).toInt)) (fX4_prepare_35 r35 v1 sg) := by
  unfold fX4_prepare_35
  refine ok_ite (fun c1 => ?_) (fun c1 => ?_)
  · have f2 := rdC3_2 hS.1.1
    replace c1 := i_le.mp c1
    exact ok_some (mkPVXC hS (show (sg 3 1).toInt = (sg 1 1).toInt by omega))
  · have f3 := rdC3_2 hS.1.1
    replace c1 := i_nle.mp c1
    refine ok_ite (fun c4 => ?_) (fun c4 => ?_)
    · have k5 : (6 : Int32).toInt = 6 := by decide
      replace c4 := i_le.mp c4
      have k6 : (0 : Int32).toInt = 0 := by decide
      exact sX4_prepare_57 hS (by omega) (by omega) (by omega) (by omega) (by omega) (by omega) hr35
    · have k7 : (6 : Int32).toInt = 6 := by decide
      replace c4 := i_nle.mp c4
      have k8 : (1 : Int32).toInt = 1 := by decide
      exact sX4_prepare_57 hS (by omega) (by omega) (by omega) (by omega) (by omega) (by omega) hr35
set_option maxHeartbeats 4000000 in
theorem sLX4_prepare_35 {s0 : Sg} {v1 : Int32} {sg : Sg} (hS : StC MX4_prepare s0 sg) (v1l : 0 ≤ v1.toInt) (v1h : v1.toInt ≤ 12) (xq : ((sg 3 1).toInt = (sg 1 1).toInt)) : Ok (PVXC MX4_prepare s0 (fun r => (r 3 1).toInt = (r 1 1).toInt)) (LX4_prepare_35 (v1, sg)) := by
  unfold LX4_prepare_35
  refine ok_loop (I := fun (z : Int32 × Sg) => StC MX4_prepare s0 z.2 ∧ 0 ≤ z.1.toInt ∧ z.1.toInt ≤ 12 ∧ ((z.2 3 1).toInt = (z.2 1 1).toInt)) (m := fun (z : Int32 × Sg) => (13 - z.1.toInt).toNat) _ ?_ ?_ _ ?_
  · intro z hz
    obtain ⟨h0, h1, h2, h3⟩ := hz
    show (13 - z.1.toInt).toNat < 10000
    omega
  · intro rec z hz hrec
    obtain ⟨v1, sg⟩ := z
    replace hz : StC MX4_prepare s0 sg ∧ 0 ≤ v1.toInt ∧ v1.toInt ≤ 12 ∧ ((sg 3 1).toInt = (sg 1 1).toInt) := hz
    obtain ⟨h0, h1, h2, h3⟩ := hz
    show Ok (PVXC MX4_prepare s0 (fun r => (r 3 1).toInt = (r 1 1).toInt)) (fX4_prepare_35 rec v1 sg)
    exact sX4_prepare_35 h0 h1 h2 h3 (fun v1' sg' g0 g1 g2 g3 g4 => hrec (v1', sg') ⟨g0, g1, g2, g3⟩ (show (13 - v1'.toInt).toNat < (13 - v1.toInt).toNat by omega))
  · exact ⟨hS, v1l, v1h, xq⟩
set_option maxHeartbeats 4000000 in
theorem sX4_prepare {sg : Sg} (hI : IC sg) : Ok (PVXC MX4_prepare sg (fun r => (r 3 1).toInt = (r 1 1).toInt)) (fX4_prepare sg) := by
  have hS : StC MX4_prepare sg sg := StC.rf hI
  unfold fX4_prepare
  refine bnd1_pvxC (sX8_gather  hS.1) (fun sg1 hsg1 xsg1 => ?_)
  replace xsg1 : (sg1 3 1).toInt = (sg1 1 1).toInt := xsg1
  have hS1 := hS.tr hsg1 (by decide)
  refine ok_ite (fun c2 => ?_) (fun c2 => ?_)
  · replace c2 := i_eq.mp c2
    exact ok_some (mkPVXC hS1 (show (sg1 3 1).toInt = (sg1 1 1).toInt by omega))
  · replace c2 := i_ne.mp c2
    refine ok_lt (fun x4 ex4 => ?_)
    replace ex4 := congrArg Int32.toInt ex4
    refine ok_lt (fun sg5 esg5 => ?_)
    have hS3 := upC10_1 hS1 (by decide) esg5
    have e4 : (sg5 1 1).toInt = (sg1 1 1).toInt := by rw [esg5]; rfl
    have e5 : (sg5 3 1).toInt = (sg1 3 1).toInt := by rw [esg5]; rfl
    have e6 : (sg5 10 1).toInt = x4.toInt := by rw [esg5]; rfl
    have k7 : (0 : Int32).toInt = 0 := by decide
    exact sLX4_prepare_35 hS3 (by omega) (by omega) (by omega)
theorem sX8_all {sg : Sg} (hI : IC0 sg) : Ok (PXC sg 0 4095 (fun (y : Int) => y = pw sg - 1)) (fX8_all sg) := by
  unfold fX8_all
  have h := rdC3_2 hI
  have h1 := shl_is (v := sg 3 2) (by omega) (by omega)
  have h2 := pw_pos sg
  have h3 := pw_le hI
  have h4 : ((1 : Int32) <<< ((sg 3 2) &&& 31)).toInt = pw sg := by rw [pw_is]; exact h1
  have k1 : (1 : Int32).toInt = 1 := by decide
  have h5 := sub_i (a := (1 : Int32) <<< ((sg 3 2) &&& 31)) (b := (1 : Int32)) (by omega) (by omega)
  exact ok_some (mkPXC (by omega) (by omega) (show (((1 : Int32) <<< ((sg 3 2) &&& 31)) - (1 : Int32)).toInt = pw sg - 1 by omega))
set_option maxHeartbeats 4000000 in
theorem sX4_pairsOf {v1 : Int32} {sg : Sg} (hI : IC sg) (v1l : 0 ≤ v1.toInt) (v1h : v1.toInt ≤ 4095) : Ok (PUC sg 0 4095) (fX4_pairsOf v1 sg) := by
  unfold fX4_pairsOf
  have k1 : (63 : Int32).toInt = 63 := by decide
  have f2 := and_l (a := v1) (b := (63 : Int32)) (by omega)
  have f3 := and_r (a := v1) (b := (63 : Int32)) (by omega)
  refine ok_lt (fun x1 ex1 => ?_)
  replace ex1 := congrArg Int32.toInt ex1
  refine ok_gin (by omega) (by omega) ?_
  have f4 := shr_i (a := v1) (v := ((6 : Int32) &&& 31)) (by omega)
  have f5 := and_l (a := (v1 >>> ((6 : Int32) &&& 31))) (b := (63 : Int32)) (by omega)
  have f6 := and_r (a := (v1 >>> ((6 : Int32) &&& 31))) (b := (63 : Int32)) (by omega)
  refine ok_lt (fun x3 ex3 => ?_)
  replace ex3 := congrArg Int32.toInt ex3
  refine ok_gin (by omega) (by omega) ?_
  have f7 := rdC29 hI.1 (j := x1.toNatClampNeg)
  have f8 := rdC30 hI.1 (j := x3.toNatClampNeg)
  have f9 := or_i (a := (sg 29 x1.toNatClampNeg)) (b := (sg 30 x3.toNatClampNeg)) 12 4096 (by decide) (by decide) (by omega) (by omega) (by omega) (by omega)
  exact ok_some (mkPUC (by omega) (by omega))
set_option maxHeartbeats 4000000 in
theorem sX4_mustBeBelow {v1 : Int32} {sg : Sg} (hI : IC sg) (v1l : 0 ≤ v1.toInt) (v1h : v1.toInt ≤ 4095) : Ok (PUC sg 0 4095) (fX4_mustBeBelow v1 sg) := by
  unfold fX4_mustBeBelow
  have k1 : (63 : Int32).toInt = 63 := by decide
  have f2 := and_l (a := v1) (b := (63 : Int32)) (by omega)
  have f3 := and_r (a := v1) (b := (63 : Int32)) (by omega)
  refine ok_lt (fun x1 ex1 => ?_)
  replace ex1 := congrArg Int32.toInt ex1
  refine ok_gin (by omega) (by omega) ?_
  have f4 := shr_i (a := v1) (v := ((6 : Int32) &&& 31)) (by omega)
  have f5 := and_l (a := (v1 >>> ((6 : Int32) &&& 31))) (b := (63 : Int32)) (by omega)
  have f6 := and_r (a := (v1 >>> ((6 : Int32) &&& 31))) (b := (63 : Int32)) (by omega)
  refine ok_lt (fun x3 ex3 => ?_)
  replace ex3 := congrArg Int32.toInt ex3
  refine ok_gin (by omega) (by omega) ?_
  have f7 := rdC27 hI.1 (j := x1.toNatClampNeg)
  have f8 := rdC28 hI.1 (j := x3.toNatClampNeg)
  have f9 := or_i (a := (sg 27 x1.toNatClampNeg)) (b := (sg 28 x3.toNatClampNeg)) 12 4096 (by decide) (by decide) (by omega) (by omega) (by omega) (by omega)
  exact ok_some (mkPUC (by omega) (by omega))
set_option maxHeartbeats 4000000 in
theorem sX9_choices_42 {v2 : Int32} {w0 : Int32} {sg : Sg} (hI : IC sg) (v2l : 0 ≤ v2.toInt) (v2h : v2.toInt ≤ 4095) (w0l : 0 ≤ w0.toInt) (w0h : w0.toInt ≤ 4095) (xa : w0.toInt < pw sg) : Ok (PXC sg 0 4095 (fun (y : Int) => 0 ≤ y ∧ y < pw sg)) (fX9_choices_42 v2 w0 sg) := by
  unfold fX9_choices_42
  refine bnd2_puC (sX4_mustBeBelow (v1 := v2) hI (by omega) (by omega)) (fun y1 qy1 zy1 => ?_)
  have f1 := and_l (a := w0) (b := (y1 ^^^ (-1 : Int32))) (by omega)
  exact ok_some (mkPXC (by omega) (by omega) (show 0 ≤ (w0 &&& (y1 ^^^ (-1 : Int32))).toInt ∧ (w0 &&& (y1 ^^^ (-1 : Int32))).toInt < pw sg by omega))
set_option maxHeartbeats 4000000 in
theorem sX9_choices {v1 : Int32} {sg : Sg} (hI : IC sg) (v1l : 0 ≤ v1.toInt) (v1h : v1.toInt ≤ 4095) : Ok (PXC sg 0 4095 (fun (y : Int) => 0 ≤ y ∧ y < pw sg)) (fX9_choices v1 sg) := by
  unfold fX9_choices
  refine bnd2_pxC (sX8_all  hI.1) (fun y1 qy1 zy1 xy1 => ?_)
  replace xy1 : y1.toInt = pw sg - 1 := xy1
  have f1 := and_l (a := y1) (b := (v1 ^^^ (-1 : Int32))) (by omega)
  refine ok_lt (fun x4 ex4 => ?_)
  replace ex4 := congrArg Int32.toInt ex4
  refine bnd2_puC (sX4_pairsOf (v1 := v1) hI (by omega) (by omega)) (fun y5 qy5 zy5 => ?_)
  have f2 := and_l (a := y5) (b := x4) (by omega)
  have f3 := and_r (a := y5) (b := x4) (by omega)
  refine ok_lt (fun x8 ex8 => ?_)
  replace ex8 := congrArg Int32.toInt ex8
  refine ok_ite (fun c4 => ?_) (fun c4 => ?_)
  · have k5 : (1 : Int32).toInt = 1 := by decide
    have f6 := sub_i (a := x8) (b := (1 : Int32)) (by omega) (by omega)
    have f7 := and_l (a := x8) (b := (x8 - (1 : Int32))) (by omega)
    have k8 : (0 : Int32).toInt = 0 := by decide
    replace c4 := i_eq.mp c4
    refine ok_ite (fun c9 => ?_) (fun c9 => ?_)
    · replace c9 := i_eq.mp c9
      exact sX9_choices_42 hI (by omega) (by omega) (by omega) (by omega) (by omega)
    · replace c9 := i_ne.mp c9
      exact sX9_choices_42 hI (by omega) (by omega) (by omega) (by omega) (by omega)
  · have k10 : (1 : Int32).toInt = 1 := by decide
    have f11 := sub_i (a := x8) (b := (1 : Int32)) (by omega) (by omega)
    have f12 := and_l (a := x8) (b := (x8 - (1 : Int32))) (by omega)
    have k13 : (0 : Int32).toInt = 0 := by decide
    replace c4 := i_ne.mp c4
    exact ok_some (mkPXC (by omega) (by omega) (show 0 ≤ (0 : Int32).toInt ∧ (0 : Int32).toInt < pw sg by omega))
set_option maxHeartbeats 4000000 in
theorem sX4_costBelow {v1 : Int32} {v2 : Int32} {sg : Sg} (hI : IC sg) (v1l : 0 ≤ v1.toInt) (v1h : v1.toInt ≤ 4095) (v2l : 0 ≤ v2.toInt) (v2h : v2.toInt ≤ 11) : Ok (PUC sg (-2147483648) 2147483647) (fX4_costBelow v1 v2 sg) := by
  unfold fX4_costBelow
  have k1 : (64 : Int32).toInt = 64 := by decide
  have f2 := mul_r (a := v2) (b := (64 : Int32)) 64 (by decide) (by omega) (by omega)
  have k3 : (63 : Int32).toInt = 63 := by decide
  have f4 := and_l (a := v1) (b := (63 : Int32)) (by omega)
  have f5 := and_r (a := v1) (b := (63 : Int32)) (by omega)
  have f6 := add_i (a := (v2 * (64 : Int32))) (b := (v1 &&& (63 : Int32))) (by omega) (by omega)
  refine ok_lt (fun x1 ex1 => ?_)
  replace ex1 := congrArg Int32.toInt ex1
  refine ok_gin (by omega) (by omega) ?_
  have f7 := shr_i (a := v1) (v := ((6 : Int32) &&& 31)) (by omega)
  have f8 := and_l (a := (v1 >>> ((6 : Int32) &&& 31))) (b := (63 : Int32)) (by omega)
  have f9 := and_r (a := (v1 >>> ((6 : Int32) &&& 31))) (b := (63 : Int32)) (by omega)
  have f10 := add_i (a := (v2 * (64 : Int32))) (b := ((v1 >>> ((6 : Int32) &&& 31)) &&& (63 : Int32))) (by omega) (by omega)
  refine ok_lt (fun x3 ex3 => ?_)
  replace ex3 := congrArg Int32.toInt ex3
  refine ok_gin (by omega) (by omega) ?_
  exact ok_some (mkPUC (lo32 _) (hi32 _))
set_option maxHeartbeats 4000000 in
theorem sX9_weighRest_111 {s0 : Sg} {v1 : Int32} {v3 : Int32} {v4 : Int32} {sg : Sg} (hS : StC MX9_weighRest s0 sg) (v1l : 0 ≤ v1.toInt) (v1h : v1.toInt ≤ 4094) (v3h : v3.toInt ≤ 1000000000) (xa : v1.toInt < pw sg) (xb : pw sg ≤ (sg 99 63).toInt) (xc : pw sg ≤ (sg 99 64).toInt) : Ok (PVC MX9_weighRest s0) (fX9_weighRest_111 v1 v3 v4 sg) := by
  have w1 := lo32 v3
  unfold fX9_weighRest_111
  have f2 := rdC99_63 hS.1.1
  refine ok_ginL (by omega) (by omega) ?_
  refine ok_lt (fun sg2 esg2 => ?_)
  have hS3 := upC63 hS (by decide) esg2
  have e4 : pw sg2 = pw sg := pw_cg (by rw [esg2]; rfl)
  have e5 : (sg2 99 63).toInt = (sg 99 63).toInt := by rw [esg2]; rfl
  have e6 : (sg2 99 64).toInt = (sg 99 64).toInt := by rw [esg2]; rfl
  have f7 := rdC99_64 hS3.1.1
  refine ok_ginL (by omega) (by omega) ?_
  refine ok_lt (fun sg4 esg4 => ?_)
  have hS8 := upC64 hS3 (by decide) esg4
  have e9 : pw sg4 = pw sg2 := pw_cg (by rw [esg4]; rfl)
  have e10 : (sg4 99 63).toInt = (sg2 99 63).toInt := by rw [esg4]; rfl
  have e11 : (sg4 99 64).toInt = (sg2 99 64).toInt := by rw [esg4]; rfl
  exact ok_some (mkPVC hS8)
set_option maxHeartbeats 4000000 in
theorem sX9_weighRest_99 {s0 : Sg} {r12 : (Int32 × Int32 × Int32 × Int32 × Int32 × Sg) → Option (Sg)} {v1 : Int32} {v3 : Int32} {v4 : Int32} {v5 : Int32} {v6 : Int32} {sg : Sg} (hS : StC MX9_weighRest s0 sg) (v1l : 0 ≤ v1.toInt) (v1h : v1.toInt ≤ 4094) (v3h : v3.toInt ≤ 1000000000) (v5l : 0 ≤ v5.toInt) (v5h : v5.toInt ≤ 11) (v6l : 1 ≤ v6.toInt) (v6h : v6.toInt ≤ 4095) (xa : v1.toInt < pw sg) (xb : pw sg ≤ (sg 99 63).toInt) (xc : pw sg ≤ (sg 99 64).toInt) (xl : lft v5 v6 sg) (hr12 : ∀ (v1' : Int32) (v3' : Int32) (v4' : Int32) (v5' : Int32) (v6' : Int32) (sg' : Sg), StC MX9_weighRest s0 sg' → 0 ≤ v1'.toInt → v1'.toInt ≤ 4094 → v3'.toInt ≤ 1000000000 → 0 ≤ v5'.toInt → v5'.toInt ≤ 12 → 0 ≤ v6'.toInt → v6'.toInt ≤ 4095 → (v1'.toInt < pw sg') → (pw sg' ≤ (sg' 99 63).toInt) → (pw sg' ≤ (sg' 99 64).toInt) → (lft v5' v6' sg') → v5.toInt < v5'.toInt → Ok (PVC MX9_weighRest s0) (r12 (v1', v3', v4', v5', v6', sg'))) : Ok (PVC MX9_weighRest s0) (fX9_weighRest_99 r12 v1 v3 v4 v5 v6 sg) := by
  have w1 := lo32 v3
  unfold fX9_weighRest_99
  refine ok_lt (fun x1 ex1 => ?_)
  replace ex1 : x1.toInt = v5.toInt + 1 := by rw [ex1]; exact add_c 1 (by decide) (by omega) (by omega)
  have f2 := shr_i (a := v6) (v := ((1 : Int32) &&& 31)) (by omega)
  refine ok_lt (fun x2 ex2 => ?_)
  replace ex2 := congrArg Int32.toInt ex2
  exact hr12 v1 v3 v4 x1 x2 sg hS (by omega) (by omega) (by omega) (by omega) (by omega) (by omega) (by omega) (by omega) (by omega) (by omega) (lft_next xl (by omega) (by omega) (by omega) (by omega) ex2) (by omega)
set_option maxHeartbeats 4000000 in
theorem sX9_weighRest_12 {s0 : Sg} {r12 : (Int32 × Int32 × Int32 × Int32 × Int32 × Sg) → Option (Sg)} {v1 : Int32} {v3 : Int32} {v4 : Int32} {v5 : Int32} {v6 : Int32} {sg : Sg} (hS : StC MX9_weighRest s0 sg) (v1l : 0 ≤ v1.toInt) (v1h : v1.toInt ≤ 4094) (v3h : v3.toInt ≤ 1000000000) (v5l : 0 ≤ v5.toInt) (v5h : v5.toInt ≤ 12) (v6l : 0 ≤ v6.toInt) (v6h : v6.toInt ≤ 4095) (xa : v1.toInt < pw sg) (xb : pw sg ≤ (sg 99 63).toInt) (xc : pw sg ≤ (sg 99 64).toInt) (xl : lft v5 v6 sg) (hr12 : ∀ (v1' : Int32) (v3' : Int32) (v4' : Int32) (v5' : Int32) (v6' : Int32) (sg' : Sg), StC MX9_weighRest s0 sg' → 0 ≤ v1'.toInt → v1'.toInt ≤ 4094 → v3'.toInt ≤ 1000000000 → 0 ≤ v5'.toInt → v5'.toInt ≤ 12 → 0 ≤ v6'.toInt → v6'.toInt ≤ 4095 → (v1'.toInt < pw sg') → (pw sg' ≤ (sg' 99 63).toInt) → (pw sg' ≤ (sg' 99 64).toInt) → (lft v5' v6' sg') → v5.toInt < v5'.toInt → Ok (PVC MX9_weighRest s0) (r12 (v1', v3', v4', v5', v6', sg'))) : Ok (PVC MX9_weighRest s0) (fX9_weighRest_12 r12 v1 v3 v4 v5 v6 sg) := by
  have w1 := lo32 v3
  unfold fX9_weighRest_12
  refine ok_ite (fun c2 => ?_) (fun c2 => ?_)
  · have k3 : (12 : Int32).toInt = 12 := by decide
    replace c2 := i_le.mp c2
    exact sX9_weighRest_111 hS (by omega) (by omega) (by omega) (by omega) (by omega) (by omega)
  · have k4 : (12 : Int32).toInt = 12 := by decide
    replace c2 := i_nle.mp c2
    refine ok_ite (fun c5 => ?_) (fun c5 => ?_)
    · have k6 : (0 : Int32).toInt = 0 := by decide
      replace c5 := i_eq.mp c5
      exact sX9_weighRest_111 hS (by omega) (by omega) (by omega) (by omega) (by omega) (by omega)
    · have k7 : (0 : Int32).toInt = 0 := by decide
      replace c5 := i_ne.mp c5
      refine ok_ite (fun c8 => ?_) (fun c8 => ?_)
      · have k9 : (1 : Int32).toInt = 1 := by decide
        have f10 := and_l (a := v6) (b := (1 : Int32)) (by omega)
        have f11 := and_r (a := v6) (b := (1 : Int32)) (by omega)
        replace c8 := i_eq.mp c8
        have f12 := shl_i (v := v5) 11 2048 (by decide) (by decide) (by omega) (by omega)
        have f13 := rdC3_2 hS.1.1
        have hz := lft_lt xl (by omega) (by omega) (by omega)
        have f14 := or_pw (sg := sg) (a := v1) (v := v5) (by omega) (by omega) (by omega) (by omega) (by omega)
        have f15 := or_i (a := v1) (b := ((1 : Int32) <<< (v5 &&& 31))) 12 4096 (by decide) (by decide) (by omega) (by omega) (by omega) (by omega)
        refine ok_lt (fun x4 ex4 => ?_)
        replace ex4 := congrArg Int32.toInt ex4
        have f16 := rdC99_63 hS.1.1
        refine ok_ginL (by omega) (by omega) ?_
        refine bnd2_puC (sX4_costBelow (v1 := v1) (v2 := v5) hS.1 (by omega) (by omega) (by omega) (by omega)) (fun y6 qy6 zy6 => ?_)
        refine ok_lt (fun x9 ex9 => ?_)
        replace ex9 := congrArg Int32.toInt ex9
        refine ok_ite (fun c17 => ?_) (fun c17 => ?_)
        · replace c17 := i_le.mp c17
          refine ok_ite (fun c18 => ?_) (fun c18 => ?_)
          · replace c18 := i_eq.mp c18
            have f19 := rdC99_64 hS.1.1
            refine ok_ginL (by omega) (by omega) ?_
            refine ok_lt (fun x13 ex13 => ?_)
            replace ex13 := congrArg Int32.toInt ex13
            exact sX9_weighRest_99 hS (by omega) (by omega) (by omega) (by omega) (by omega) (by omega) (by omega) (by omega) (by omega) (by omega) xl hr12
          · replace c18 := i_ne.mp c18
            exact sX9_weighRest_99 hS (by omega) (by omega) (by omega) (by omega) (by omega) (by omega) (by omega) (by omega) (by omega) (by omega) xl hr12
        · replace c17 := i_nle.mp c17
          have f20 := rdC99_64 hS.1.1
          refine ok_ginL (by omega) (by omega) ?_
          refine ok_lt (fun x15 ex15 => ?_)
          replace ex15 := congrArg Int32.toInt ex15
          exact sX9_weighRest_99 hS (by omega) (by omega) (by omega) (by omega) (by omega) (by omega) (by omega) (by omega) (by omega) (by omega) xl hr12
      · have k21 : (1 : Int32).toInt = 1 := by decide
        have f22 := and_l (a := v6) (b := (1 : Int32)) (by omega)
        have f23 := and_r (a := v6) (b := (1 : Int32)) (by omega)
        replace c8 := i_ne.mp c8
        exact sX9_weighRest_99 hS (by omega) (by omega) (by omega) (by omega) (by omega) (by omega) (by omega) (by omega) (by omega) (by omega) xl hr12
set_option maxHeartbeats 4000000 in
theorem sLX9_weighRest_12 {s0 : Sg} {v1 : Int32} {v3 : Int32} {v4 : Int32} {v5 : Int32} {v6 : Int32} {sg : Sg} (hS : StC MX9_weighRest s0 sg) (v1l : 0 ≤ v1.toInt) (v1h : v1.toInt ≤ 4094) (v3h : v3.toInt ≤ 1000000000) (v5l : 0 ≤ v5.toInt) (v5h : v5.toInt ≤ 12) (v6l : 0 ≤ v6.toInt) (v6h : v6.toInt ≤ 4095) (xa : (v1.toInt < pw sg)) (xb : (pw sg ≤ (sg 99 63).toInt)) (xc : (pw sg ≤ (sg 99 64).toInt)) (xl : (lft v5 v6 sg)) : Ok (PVC MX9_weighRest s0) (LX9_weighRest_12 (v1, v3, v4, v5, v6, sg)) := by
  unfold LX9_weighRest_12
  refine ok_loop (I := fun (z : Int32 × Int32 × Int32 × Int32 × Int32 × Sg) => StC MX9_weighRest s0 z.2.2.2.2.2 ∧ 0 ≤ z.1.toInt ∧ z.1.toInt ≤ 4094 ∧ z.2.1.toInt ≤ 1000000000 ∧ 0 ≤ z.2.2.2.1.toInt ∧ z.2.2.2.1.toInt ≤ 12 ∧ 0 ≤ z.2.2.2.2.1.toInt ∧ z.2.2.2.2.1.toInt ≤ 4095 ∧ (z.1.toInt < pw z.2.2.2.2.2) ∧ (pw z.2.2.2.2.2 ≤ (z.2.2.2.2.2 99 63).toInt) ∧ (pw z.2.2.2.2.2 ≤ (z.2.2.2.2.2 99 64).toInt) ∧ (lft z.2.2.2.1 z.2.2.2.2.1 z.2.2.2.2.2)) (m := fun (z : Int32 × Int32 × Int32 × Int32 × Int32 × Sg) => (13 - z.2.2.2.1.toInt).toNat) _ ?_ ?_ _ ?_
  · intro z hz
    obtain ⟨h0, h1, h2, h3, h4, h5, h6, h7, h8, h9, h10, h11⟩ := hz
    show (13 - z.2.2.2.1.toInt).toNat < 10000
    omega
  · intro rec z hz hrec
    obtain ⟨v1, v3, v4, v5, v6, sg⟩ := z
    replace hz : StC MX9_weighRest s0 sg ∧ 0 ≤ v1.toInt ∧ v1.toInt ≤ 4094 ∧ v3.toInt ≤ 1000000000 ∧ 0 ≤ v5.toInt ∧ v5.toInt ≤ 12 ∧ 0 ≤ v6.toInt ∧ v6.toInt ≤ 4095 ∧ (v1.toInt < pw sg) ∧ (pw sg ≤ (sg 99 63).toInt) ∧ (pw sg ≤ (sg 99 64).toInt) ∧ (lft v5 v6 sg) := hz
    obtain ⟨h0, h1, h2, h3, h4, h5, h6, h7, h8, h9, h10, h11⟩ := hz
    show Ok (PVC MX9_weighRest s0) (fX9_weighRest_12 rec v1 v3 v4 v5 v6 sg)
    exact sX9_weighRest_12 h0 h1 h2 h3 h4 h5 h6 h7 h8 h9 h10 h11 (fun v1' v3' v4' v5' v6' sg' g0 g1 g2 g3 g4 g5 g6 g7 g8 g9 g10 g11 g12 => hrec (v1', v3', v4', v5', v6', sg') ⟨g0, g1, g2, g3, g4, g5, g6, g7, g8, g9, g10, g11⟩ (show (13 - v5'.toInt).toNat < (13 - v5.toInt).toNat by omega))
  · exact ⟨hS, v1l, v1h, v3h, v5l, v5h, v6l, v6h, xa, xb, xc, xl⟩
set_option maxHeartbeats 4000000 in
theorem sX9_weighRest {v1 : Int32} {v2 : Int32} {sg : Sg} (hI : IC sg) (v1l : 0 ≤ v1.toInt) (v1h : v1.toInt ≤ 4094) (v2l : 0 ≤ v2.toInt) (v2h : v2.toInt ≤ 4095) (xa : v1.toInt < pw sg) (xd : v2.toInt < pw sg) (xb : pw sg ≤ (sg 99 63).toInt) (xc : pw sg ≤ (sg 99 64).toInt) : Ok (PVC MX9_weighRest sg) (fX9_weighRest v1 v2 sg) := by
  have hS : StC MX9_weighRest sg sg := StC.rf hI
  unfold fX9_weighRest
  have k1 : (1000000000 : Int32).toInt = 1000000000 := by decide
  have k2 : (0 : Int32).toInt = 0 := by decide
  exact sLX9_weighRest_12 hS (by omega) (by omega) (by omega) (by omega) (by omega) (by omega) (by omega) (by omega) (by omega) (by omega) (lft_0 (by omega) (by omega))
set_option maxHeartbeats 4000000 in
theorem sX9_solve_86 {s0 : Sg} {r86 : (Int32 × Sg) → Option (Sg)} {v2 : Int32} {sg : Sg} (hS : StC MX9_solve s0 sg) (v2l : (-1) ≤ v2.toInt) (v2h : v2.toInt ≤ 4094) (xa : v2.toInt < pw sg) (xb : pw sg ≤ (sg 99 63).toInt) (xc : pw sg ≤ (sg 99 64).toInt) (xq : (sg 3 1).toInt = (sg 1 1).toInt) (hr86 : ∀ (v2' : Int32) (sg' : Sg), StC MX9_solve s0 sg' → (-1) ≤ v2'.toInt → v2'.toInt ≤ 4094 → (v2'.toInt < pw sg') → (pw sg' ≤ (sg' 99 63).toInt) → (pw sg' ≤ (sg' 99 64).toInt) → ((sg' 3 1).toInt = (sg' 1 1).toInt) → v2'.toInt < v2.toInt → Ok (PVXC MX9_solve s0 (fun r => pw r ≤ (r 99 63).toInt ∧ pw r ≤ (r 99 64).toInt ∧ (r 3 1).toInt = (r 1 1).toInt)) (r86 (v2', sg'))) : Ok (PVXC MX9_solve s0 (fun r => pw r ≤ (r 99 63).toInt ∧ pw r ≤ (r 99 64).toInt ∧ (r 3 1).toInt = (r 1 1).toInt)) (fX9_solve_86 r86 v2 sg) := by
  unfold fX9_solve_86
  refine ok_ite (fun c1 => ?_) (fun c1 => ?_)
  · have k2 : (0 : Int32).toInt = 0 := by decide
    replace c1 := i_lt.mp c1
    exact ok_some (mkPVXC hS (show pw sg ≤ (sg 99 63).toInt ∧ pw sg ≤ (sg 99 64).toInt ∧ (sg 3 1).toInt = (sg 1 1).toInt by omega))
  · have k3 : (0 : Int32).toInt = 0 := by decide
    replace c1 := i_nlt.mp c1
    refine bnd2_pxC (sX9_choices (v1 := v2) hS.1 (by omega) (by omega)) (fun y2 qy2 zy2 xy2 => ?_)
    replace xy2 : 0 ≤ y2.toInt ∧ y2.toInt < pw sg := xy2
    refine bnd1_pvC (sX9_weighRest (v1 := v2) (v2 := y2) hS.1 (by omega) (by omega) (by omega) (by omega) (by omega) (by omega) (by omega) (by omega)) (fun sg5 hsg5 => ?_)
    have e4 : pw sg5 = pw sg := pw_cg (congrFun (hsg5.fr 3 (by decide)) _)
    have e5 : (sg5 1 1).toInt = (sg 1 1).toInt := congrArg Int32.toInt (congrFun (hsg5.fr 1 (by decide)) _)
    have e6 : (sg5 3 1).toInt = (sg 3 1).toInt := congrArg Int32.toInt (congrFun (hsg5.fr 3 (by decide)) _)
    have e7 : (sg5 99 63).toInt = (sg 99 63).toInt := congrArg Int32.toInt (congrFun (hsg5.fr 99 (by decide)) _)
    have e8 : (sg5 99 64).toInt = (sg 99 64).toInt := congrArg Int32.toInt (congrFun (hsg5.fr 99 (by decide)) _)
    have hS9 := hS.tr hsg5 (by decide)
    refine ok_lt (fun x7 ex7 => ?_)
    replace ex7 : x7.toInt = v2.toInt + (-1) := by rw [ex7]; exact add_c (-1) (by decide) (by omega) (by omega)
    exact hr86 x7 sg5 hS9 (by omega) (by omega) (by omega) (by omega) (by omega) (by omega) (by omega)
set_option maxHeartbeats 4000000 in
theorem sLX9_solve_86 {s0 : Sg} {v2 : Int32} {sg : Sg} (hS : StC MX9_solve s0 sg) (v2l : (-1) ≤ v2.toInt) (v2h : v2.toInt ≤ 4094) (xa : (v2.toInt < pw sg)) (xb : (pw sg ≤ (sg 99 63).toInt)) (xc : (pw sg ≤ (sg 99 64).toInt)) (xq : ((sg 3 1).toInt = (sg 1 1).toInt)) : Ok (PVXC MX9_solve s0 (fun r => pw r ≤ (r 99 63).toInt ∧ pw r ≤ (r 99 64).toInt ∧ (r 3 1).toInt = (r 1 1).toInt)) (LX9_solve_86 (v2, sg)) := by
  unfold LX9_solve_86
  refine ok_loop (I := fun (z : Int32 × Sg) => StC MX9_solve s0 z.2 ∧ (-1) ≤ z.1.toInt ∧ z.1.toInt ≤ 4094 ∧ (z.1.toInt < pw z.2) ∧ (pw z.2 ≤ (z.2 99 63).toInt) ∧ (pw z.2 ≤ (z.2 99 64).toInt) ∧ ((z.2 3 1).toInt = (z.2 1 1).toInt)) (m := fun (z : Int32 × Sg) => (z.1.toInt - (-2)).toNat) _ ?_ ?_ _ ?_
  · intro z hz
    obtain ⟨h0, h1, h2, h3, h4, h5, h6⟩ := hz
    show (z.1.toInt - (-2)).toNat < 10000
    omega
  · intro rec z hz hrec
    obtain ⟨v2, sg⟩ := z
    replace hz : StC MX9_solve s0 sg ∧ (-1) ≤ v2.toInt ∧ v2.toInt ≤ 4094 ∧ (v2.toInt < pw sg) ∧ (pw sg ≤ (sg 99 63).toInt) ∧ (pw sg ≤ (sg 99 64).toInt) ∧ ((sg 3 1).toInt = (sg 1 1).toInt) := hz
    obtain ⟨h0, h1, h2, h3, h4, h5, h6⟩ := hz
    show Ok (PVXC MX9_solve s0 (fun r => pw r ≤ (r 99 63).toInt ∧ pw r ≤ (r 99 64).toInt ∧ (r 3 1).toInt = (r 1 1).toInt)) (fX9_solve_86 rec v2 sg)
    exact sX9_solve_86 h0 h1 h2 h3 h4 h5 h6 (fun v2' sg' g0 g1 g2 g3 g4 g5 g6 g7 => hrec (v2', sg') ⟨g0, g1, g2, g3, g4, g5, g6⟩ (show (v2'.toInt - (-2)).toNat < (v2.toInt - (-2)).toNat by omega))
  · exact ⟨hS, v2l, v2h, xa, xb, xc, xq⟩
set_option maxHeartbeats 4000000 in
theorem sX9_solve_68 {s0 : Sg} {v1 : Int32} {sg : Sg} (hS : StC MX9_solve s0 sg) (v1l : 0 ≤ v1.toInt) (v1h : v1.toInt ≤ 4095) (xa : v1.toInt = pw sg - 1) (xb : pw sg ≤ (sg 99 63).toInt) (xc : pw sg ≤ (sg 99 64).toInt) (xq : (sg 3 1).toInt = (sg 1 1).toInt) : Ok (PVXC MX9_solve s0 (fun r => pw r ≤ (r 99 63).toInt ∧ pw r ≤ (r 99 64).toInt ∧ (r 3 1).toInt = (r 1 1).toInt)) (fX9_solve_68 v1 sg) := by
  unfold fX9_solve_68
  have f1 := rdC99_63 hS.1.1
  refine ok_ginL (by omega) (by omega) ?_
  have k2 : (0 : Int32).toInt = 0 := by decide
  refine ok_lt (fun sg2 esg2 => ?_)
  have hS3 := upC63 hS (by decide) esg2
  have e4 : pw sg2 = pw sg := pw_cg (by rw [esg2]; rfl)
  have e5 : (sg2 1 1).toInt = (sg 1 1).toInt := by rw [esg2]; rfl
  have e6 : (sg2 3 1).toInt = (sg 3 1).toInt := by rw [esg2]; rfl
  have e7 : (sg2 99 63).toInt = (sg 99 63).toInt := by rw [esg2]; rfl
  have e8 : (sg2 99 64).toInt = (sg 99 64).toInt := by rw [esg2]; rfl
  have f9 := rdC99_64 hS3.1.1
  refine ok_ginL (by omega) (by omega) ?_
  have k10 : (1 : Int32).toInt = 1 := by decide
  refine ok_lt (fun sg4 esg4 => ?_)
  have hS11 := upC64 hS3 (by decide) esg4
  have e12 : pw sg4 = pw sg2 := pw_cg (by rw [esg4]; rfl)
  have e13 : (sg4 1 1).toInt = (sg2 1 1).toInt := by rw [esg4]; rfl
  have e14 : (sg4 3 1).toInt = (sg2 3 1).toInt := by rw [esg4]; rfl
  have e15 : (sg4 99 63).toInt = (sg2 99 63).toInt := by rw [esg4]; rfl
  have e16 : (sg4 99 64).toInt = (sg2 99 64).toInt := by rw [esg4]; rfl
  refine ok_lt (fun x5 ex5 => ?_)
  replace ex5 : x5.toInt = v1.toInt - 1 := by rw [ex5]; exact sub_c 1 (by decide) (by omega) (by omega)
  exact sLX9_solve_86 hS11 (by omega) (by omega) (by omega) (by omega) (by omega) (by omega)
theorem mkCR {sg sg' : Sg} (h : CR sg) (hk : ∀ k, k = 1 ∨ k = 3 ∨ k = 11 ∨ k = 13 ∨ k = 18 → sg' k = sg k) (h1 : (sg' 4 2).toInt = (sg' 3 1).toInt) (h2 : pw sg' ≤ (sg' 99 63).toInt) (h3 : pw sg' ≤ (sg' 99 64).toInt) (h4 : (sg' 99 63).toInt = (sg' 99 64).toInt) : CR sg' := by
  obtain ⟨-, g2, -, g4, -⟩ := h
  have e1 := hk 1 (by omega)
  have e3 := hk 3 (by omega)
  have e11 := hk 11 (by omega)
  have e13 := hk 13 (by omega)
  have e18 := hk 18 (by omega)
  refine ⟨by omega, by rw [e1, e3]; exact g2, fun _ => ⟨h2, h3⟩, ?_, h4⟩
  rw [e1, e3, e18]
  intro z x hx
  exact g4 z x ((cnt_cg (by rw [e1]) (by rw [e11]) (by rw [e13])).mp hx)
theorem nwZ63 {M : List Nat} {s0 sg x : Sg} {n : Int32} (h : StC0 M s0 sg) (hk : 63 ∈ M) (h99 : 99 ∈ M) (e : x = nw2 sg 63 n) (h1 : 1 ≤ n.toInt) (h2 : n.toInt ≤ 4096) : StC0 M s0 x := by rw [e]; exact h.nw hk h99 (by decide) h1 h2
theorem nwZ64 {M : List Nat} {s0 sg x : Sg} {n : Int32} (h : StC0 M s0 sg) (hk : 64 ∈ M) (h99 : 99 ∈ M) (e : x = nw2 sg 64 n) (h1 : 1 ≤ n.toInt) (h2 : n.toInt ≤ 4096) : StC0 M s0 x := by rw [e]; exact h.nw hk h99 (by decide) h1 h2
set_option maxHeartbeats 4000000 in
theorem sX9_solve {sg : Sg} (hI : IC sg) : Ok (PVXC MX9_solve sg (fun r => pw r ≤ (r 99 63).toInt ∧ pw r ≤ (r 99 64).toInt ∧ (r 3 1).toInt = (r 1 1).toInt)) (fX9_solve sg) := by
  have hS : StC MX9_solve sg sg := StC.rf hI
  unfold fX9_solve
  refine bnd1_pvxC (sX4_prepare  hS.1) (fun sg1 hsg1 xsg1 => ?_)
  replace xsg1 : (sg1 3 1).toInt = (sg1 1 1).toInt := xsg1
  have hS1 := hS.tr hsg1 (by decide)
  refine ok_ite (fun c2 => ?_) (fun c2 => ?_)
  · replace c2 := i_eq.mp c2
    have nq := hS1.1.2.2.2.1 (by omega)
    exact ok_some (mkPVXC hS1 (show pw sg1 ≤ (sg1 99 63).toInt ∧ pw sg1 ≤ (sg1 99 64).toInt ∧ (sg1 3 1).toInt = (sg1 1 1).toInt by omega))
  · replace c2 := i_ne.mp c2
    refine ok_lt (fun x4 ex4 => ?_)
    replace ex4 := congrArg Int32.toInt ex4
    refine ok_lt (fun sg5 esg5 => ?_)
    have hS3 := upZ4_2 hS1.to0 (by decide) esg5
    have e4 : (sg5 1 1).toInt = (sg1 1 1).toInt := by rw [esg5]; rfl
    have e5 : (sg5 3 1).toInt = (sg1 3 1).toInt := by rw [esg5]; rfl
    have pp := pw_pos sg5
    have e6 : (sg5 4 2).toInt = x4.toInt := by rw [esg5]; rfl
    refine bnd2_pxC (sX8_all  hS3.1) (fun y6 qy6 zy6 xy6 => ?_)
    replace xy6 : y6.toInt = pw sg5 - 1 := xy6
    refine ok_ite (fun c7 => ?_) (fun c7 => ?_)
    · have f8 := rdC99_63 hS3.1
      have f9 := ofn_i (x := (sg5 99 63)) (by omega)
      replace c7 := i_lt.mp c7
      have hl : (sg5 99 63).toInt = (sg5 99 64).toInt := by
        have := hS1.1.2.2.2.2.2
        rw [esg5]
        exact this
      have hC := mkCR hS1.1.2 (fun k hk => by rw [esg5]; exact up2_n (by omega)) (by omega) (by omega) (by omega) hl
      exact sX9_solve_68 (s0 := sg) ⟨⟨hS3.1, hC⟩, hS3.2⟩ (by omega) (by omega) (by omega) (by omega) (by omega) (by omega)
    · have f10 := rdC99_63 hS3.1
      have f11 := ofn_i (x := (sg5 99 63)) (by omega)
      replace c7 := i_nlt.mp c7
      have k12 : (1 : Int32).toInt = 1 := by decide
      have f13 := add_i (a := y6) (b := (1 : Int32)) (by omega) (by omega)
      refine ok_lt (fun x10 ex10 => ?_)
      replace ex10 := congrArg Int32.toInt ex10
      refine ok_gnw (by omega) (by omega) ?_
      refine ok_lt (fun sg12 esg12 => ?_)
      have hS14 := nwZ63 (n := x10) hS3 (by decide) (by decide) esg12 (by omega) (by omega)
      have e15 : pw sg12 = pw sg5 := pw_cg (by rw [esg12]; rfl)
      have e16 : (sg12 1 1).toInt = (sg5 1 1).toInt := by rw [esg12]; rfl
      have e17 : (sg12 3 1).toInt = (sg5 3 1).toInt := by rw [esg12]; rfl
      have e18 : (sg12 4 2).toInt = (sg5 4 2).toInt := by rw [esg12]; rfl
      have e19 : (sg12 99 63).toInt = x10.toInt := by rw [esg12]; rfl
      refine ok_lt (fun x14 ex14 => ?_)
      replace ex14 := congrArg Int32.toInt ex14
      refine ok_gnw (by omega) (by omega) ?_
      refine ok_lt (fun sg16 esg16 => ?_)
      have hS20 := nwZ64 (n := x14) hS14 (by decide) (by decide) esg16 (by omega) (by omega)
      have e21 : pw sg16 = pw sg12 := pw_cg (by rw [esg16]; rfl)
      have e22 : (sg16 1 1).toInt = (sg12 1 1).toInt := by rw [esg16]; rfl
      have e23 : (sg16 3 1).toInt = (sg12 3 1).toInt := by rw [esg16]; rfl
      have e24 : (sg16 4 2).toInt = (sg12 4 2).toInt := by rw [esg16]; rfl
      have e25 : (sg16 99 63).toInt = (sg12 99 63).toInt := by rw [esg16]; rfl
      have e26 : (sg16 99 64).toInt = x14.toInt := by rw [esg16]; rfl
      have hC := mkCR hS1.1.2 (sg' := sg16) (fun k hk => by
        rw [esg16, esg12, esg5]
        funext j
        rw [nw2_is, if_neg (by omega), if_neg (by omega), nw2_is, if_neg (by omega), if_neg (by omega), up2_n (by omega)]) (by omega) (by omega) (by omega) (by omega)
      exact sX9_solve_68 (s0 := sg) ⟨⟨hS20.1, hC⟩, hS20.2⟩ (by omega) (by omega) (by omega) (by omega) (by omega) (by omega)
set_option maxHeartbeats 4000000 in
theorem sX9_hasLawful {sg : Sg} (hI : IC sg) : Ok (PUC sg 0 1) (fX9_hasLawful sg) := by
  unfold fX9_hasLawful
  have k1 : (0 : Int32).toInt = 0 := by decide
  have f2 := rdC99_63 hI.1
  refine ok_ginL (by omega) (by omega) ?_
  refine ok_ite (fun c3 => ?_) (fun c3 => ?_)
  · have k4 : (1000000000 : Int32).toInt = 1000000000 := by decide
    replace c3 := i_le.mp c3
    exact ok_some (mkPUC (by omega) (by omega))
  · have k5 : (1000000000 : Int32).toInt = 1000000000 := by decide
    replace c3 := i_nle.mp c3
    have k6 : (1 : Int32).toInt = 1 := by decide
    exact ok_some (mkPUC (by omega) (by omega))
set_option maxHeartbeats 4000000 in
theorem sX9_leastWeight {sg : Sg} (hI : IC sg) : Ok (PUlC sg) (fX9_leastWeight sg) := by
  unfold fX9_leastWeight
  have k1 : (0 : Int32).toInt = 0 := by decide
  have f2 := rdC99_63 hI.1
  refine ok_ginL (by omega) (by omega) ?_
  exact ok_some (mkPUlC)
set_option maxHeartbeats 4000000 in
theorem sX11_least {sg : Sg} (hI : IC sg) : Ok (PLC MX11_least sg) (fX11_least sg) := by
  have hS : StC MX11_least sg sg := StC.rf hI
  unfold fX11_least
  refine bnd1_pvxC (sX9_solve  hS.1) (fun sg1 hsg1 xsg1 => ?_)
  replace xsg1 : pw sg1 ≤ (sg1 99 63).toInt ∧ pw sg1 ≤ (sg1 99 64).toInt ∧ (sg1 3 1).toInt = (sg1 1 1).toInt := xsg1
  have hS1 := hS.tr hsg1 (by decide)
  refine bnd2_puC (sX9_hasLawful  hS1.1) (fun y4 qy4 zy4 => ?_)
  refine ok_ite (fun c2 => ?_) (fun c2 => ?_)
  · have k3 : (0 : Int32).toInt = 0 := by decide
    replace c2 := i_eq.mp c2
    exact ok_some (mkPLC hS1)
  · have k4 : (0 : Int32).toInt = 0 := by decide
    replace c2 := i_ne.mp c2
    refine bnd2_pulC (sX9_leastWeight  hS1.1) (fun y8 => ?_)
    exact ok_some (mkPLC hS1)
set_option maxHeartbeats 4000000 in
theorem sX9_howMany {sg : Sg} (hI : IC sg) : Ok (PUlC sg) (fX9_howMany sg) := by
  unfold fX9_howMany
  have k1 : (0 : Int32).toInt = 0 := by decide
  have f2 := rdC99_64 hI.1
  refine ok_ginL (by omega) (by omega) ?_
  exact ok_some (mkPUlC)
set_option maxHeartbeats 4000000 in
theorem sX11_many {sg : Sg} (hI : IC sg) : Ok (PLC MX11_many sg) (fX11_many sg) := by
  have hS : StC MX11_many sg sg := StC.rf hI
  unfold fX11_many
  refine bnd1_pvxC (sX9_solve  hS.1) (fun sg1 hsg1 xsg1 => ?_)
  replace xsg1 : pw sg1 ≤ (sg1 99 63).toInt ∧ pw sg1 ≤ (sg1 99 64).toInt ∧ (sg1 3 1).toInt = (sg1 1 1).toInt := xsg1
  have hS1 := hS.tr hsg1 (by decide)
  refine bnd2_pulC (sX9_howMany  hS1.1) (fun y4 => ?_)
  exact ok_some (mkPLC hS1)
set_option maxHeartbeats 4000000 in
theorem sX11_isIn {v0 : Int32} {v1 : Int32} {sg : Sg} (hI : IC sg) (v0l : 0 ≤ v0.toInt) (v0h : v0.toInt ≤ 4095) (v1l : 0 ≤ v1.toInt) (v1h : v1.toInt ≤ 11) : Ok (PXC sg 0 1 (fun (y : Int) => y = 0 ∨ 0 < (v0 >>> (v1 &&& 31)).toInt)) (fX11_isIn v0 v1 sg) := by
  unfold fX11_isIn
  refine ok_ite (fun c1 => ?_) (fun c1 => ?_)
  · have f2 := shr_i (a := v0) (v := (v1 &&& 31)) (by omega)
    have k3 : (1 : Int32).toInt = 1 := by decide
    have f4 := and_l (a := (v0 >>> (v1 &&& 31))) (b := (1 : Int32)) (by omega)
    have f5 := and_r (a := (v0 >>> (v1 &&& 31))) (b := (1 : Int32)) (by omega)
    replace c1 := i_eq.mp c1
    exact ok_some (mkPXC (by omega) (by omega) (show (1 : Int32).toInt = 0 ∨ 0 < (v0 >>> (v1 &&& 31)).toInt by omega))
  · have f6 := shr_i (a := v0) (v := (v1 &&& 31)) (by omega)
    have k7 : (1 : Int32).toInt = 1 := by decide
    have f8 := and_l (a := (v0 >>> (v1 &&& 31))) (b := (1 : Int32)) (by omega)
    have f9 := and_r (a := (v0 >>> (v1 &&& 31))) (b := (1 : Int32)) (by omega)
    replace c1 := i_ne.mp c1
    have k10 : (0 : Int32).toInt = 0 := by decide
    exact ok_some (mkPXC (by omega) (by omega) (show (0 : Int32).toInt = 0 ∨ 0 < (v0 >>> (v1 &&& 31)).toInt by omega))
set_option maxHeartbeats 4000000 in
theorem sX9_bestChoices_77 {r11 : (Int32 × Int32 × Int32 × Int32 × Sg) → Option (Int32 × Sg)} {v1 : Int32} {v2 : Int32} {v3 : Int32} {v4 : Int32} {sg : Sg} (hI : IC sg) (v1l : 0 ≤ v1.toInt) (v1h : v1.toInt ≤ 4095) (v2l : 0 ≤ v2.toInt) (v2h : v2.toInt ≤ 4095) (v3l : 0 ≤ v3.toInt) (v3h : v3.toInt ≤ 4095) (v4l : 0 ≤ v4.toInt) (v4h : v4.toInt ≤ 11) (xa : v1.toInt < pw sg) (xb : pw sg ≤ (sg 99 63).toInt) (xf : v3.toInt < pw sg) (hr11 : ∀ (v1' : Int32) (v2' : Int32) (v3' : Int32) (v4' : Int32), 0 ≤ v1'.toInt → v1'.toInt ≤ 4095 → 0 ≤ v2'.toInt → v2'.toInt ≤ 4095 → 0 ≤ v3'.toInt → v3'.toInt ≤ 4095 → 0 ≤ v4'.toInt → v4'.toInt ≤ 12 → (v1'.toInt < pw sg) → (pw sg ≤ (sg 99 63).toInt) → (v3'.toInt < pw sg) → v4.toInt < v4'.toInt → Ok (PXC sg 0 4095 (fun (y : Int) => 0 ≤ y ∧ y < pw sg)) (r11 (v1', v2', v3', v4', sg))) : Ok (PXC sg 0 4095 (fun (y : Int) => 0 ≤ y ∧ y < pw sg)) (fX9_bestChoices_77 r11 v1 v2 v3 v4 sg) := by
  unfold fX9_bestChoices_77
  refine ok_lt (fun x1 ex1 => ?_)
  replace ex1 : x1.toInt = v4.toInt + 1 := by rw [ex1]; exact add_c 1 (by decide) (by omega) (by omega)
  exact hr11 v1 v2 v3 x1 (by omega) (by omega) (by omega) (by omega) (by omega) (by omega) (by omega) (by omega) (by omega) (by omega) (by omega) (by omega)
set_option maxHeartbeats 4000000 in
theorem sX9_bestChoices_11 {r11 : (Int32 × Int32 × Int32 × Int32 × Sg) → Option (Int32 × Sg)} {v1 : Int32} {v2 : Int32} {v3 : Int32} {v4 : Int32} {sg : Sg} (hI : IC sg) (v1l : 0 ≤ v1.toInt) (v1h : v1.toInt ≤ 4095) (v2l : 0 ≤ v2.toInt) (v2h : v2.toInt ≤ 4095) (v3l : 0 ≤ v3.toInt) (v3h : v3.toInt ≤ 4095) (v4l : 0 ≤ v4.toInt) (v4h : v4.toInt ≤ 12) (xa : v1.toInt < pw sg) (xb : pw sg ≤ (sg 99 63).toInt) (xf : v3.toInt < pw sg) (hr11 : ∀ (v1' : Int32) (v2' : Int32) (v3' : Int32) (v4' : Int32), 0 ≤ v1'.toInt → v1'.toInt ≤ 4095 → 0 ≤ v2'.toInt → v2'.toInt ≤ 4095 → 0 ≤ v3'.toInt → v3'.toInt ≤ 4095 → 0 ≤ v4'.toInt → v4'.toInt ≤ 12 → (v1'.toInt < pw sg) → (pw sg ≤ (sg 99 63).toInt) → (v3'.toInt < pw sg) → v4.toInt < v4'.toInt → Ok (PXC sg 0 4095 (fun (y : Int) => 0 ≤ y ∧ y < pw sg)) (r11 (v1', v2', v3', v4', sg))) : Ok (PXC sg 0 4095 (fun (y : Int) => 0 ≤ y ∧ y < pw sg)) (fX9_bestChoices_11 r11 v1 v2 v3 v4 sg) := by
  unfold fX9_bestChoices_11
  refine ok_ite (fun c1 => ?_) (fun c1 => ?_)
  · have f2 := rdC3_2 hI.1
    replace c1 := i_le.mp c1
    exact ok_some (mkPXC (by omega) (by omega) (show 0 ≤ v3.toInt ∧ v3.toInt < pw sg by omega))
  · have f3 := rdC3_2 hI.1
    replace c1 := i_nle.mp c1
    refine ok_ite (fun c4 => ?_) (fun c4 => ?_)
    · have f5 := shr_i (a := v2) (v := (v4 &&& 31)) (by omega)
      have k6 : (0 : Int32).toInt = 0 := by decide
      replace c4 := i_eq.mp c4
      exact ok_some (mkPXC (by omega) (by omega) (show 0 ≤ v3.toInt ∧ v3.toInt < pw sg by omega))
    · have f7 := shr_i (a := v2) (v := (v4 &&& 31)) (by omega)
      have k8 : (0 : Int32).toInt = 0 := by decide
      replace c4 := i_ne.mp c4
      refine bnd2_pxC (sX11_isIn (v0 := v2) (v1 := v4) hI (by omega) (by omega) (by omega) (by omega)) (fun y3 qy3 zy3 xy3 => ?_)
      replace xy3 : y3.toInt = 0 ∨ 0 < (v2 >>> (v4 &&& 31)).toInt := xy3
      refine ok_ite (fun c9 => ?_) (fun c9 => ?_)
      · replace c9 := i_eq.mp c9
        exact sX9_bestChoices_77 hI (by omega) (by omega) (by omega) (by omega) (by omega) (by omega) (by omega) (by omega) (by omega) (by omega) (by omega) hr11
      · replace c9 := i_ne.mp c9
        have f10 := rdC99_63 hI.1
        refine ok_ginL (by omega) (by omega) ?_
        have f11 := shl_i (v := v4) 11 2048 (by decide) (by decide) (by omega) (by omega)
        have f12 := or_pw (sg := sg) (a := v1) (v := v4) (by omega) (by omega) (by omega) (by omega) (by omega)
        have f13 := or_i (a := v1) (b := ((1 : Int32) <<< (v4 &&& 31))) 12 4096 (by decide) (by decide) (by omega) (by omega) (by omega) (by omega)
        refine ok_lt (fun x9 ex9 => ?_)
        replace ex9 := congrArg Int32.toInt ex9
        refine ok_ginL (by omega) (by omega) ?_
        refine bnd2_puC (sX4_costBelow (v1 := v1) (v2 := v4) hI (by omega) (by omega) (by omega) (by omega)) (fun y11 qy11 zy11 => ?_)
        refine ok_ite (fun c14 => ?_) (fun c14 => ?_)
        · replace c14 := i_eq.mp c14
          have f15 := or_pw (sg := sg) (a := v3) (v := v4) (by omega) (by omega) (by omega) (by omega) (by omega)
          have f16 := or_i (a := v3) (b := ((1 : Int32) <<< (v4 &&& 31))) 12 4096 (by decide) (by decide) (by omega) (by omega) (by omega) (by omega)
          refine ok_lt (fun x15 ex15 => ?_)
          replace ex15 := congrArg Int32.toInt ex15
          exact sX9_bestChoices_77 hI (by omega) (by omega) (by omega) (by omega) (by omega) (by omega) (by omega) (by omega) (by omega) (by omega) (by omega) hr11
        · replace c14 := i_ne.mp c14
          exact sX9_bestChoices_77 hI (by omega) (by omega) (by omega) (by omega) (by omega) (by omega) (by omega) (by omega) (by omega) (by omega) (by omega) hr11
set_option maxHeartbeats 4000000 in
theorem sLX9_bestChoices_11 {v1 : Int32} {v2 : Int32} {v3 : Int32} {v4 : Int32} {sg : Sg} (hI : IC sg) (v1l : 0 ≤ v1.toInt) (v1h : v1.toInt ≤ 4095) (v2l : 0 ≤ v2.toInt) (v2h : v2.toInt ≤ 4095) (v3l : 0 ≤ v3.toInt) (v3h : v3.toInt ≤ 4095) (v4l : 0 ≤ v4.toInt) (v4h : v4.toInt ≤ 12) (xa : (v1.toInt < pw sg)) (xb : (pw sg ≤ (sg 99 63).toInt)) (xf : (v3.toInt < pw sg)) : Ok (PXC sg 0 4095 (fun (y : Int) => 0 ≤ y ∧ y < pw sg)) (LX9_bestChoices_11 (v1, v2, v3, v4, sg)) := by
  unfold LX9_bestChoices_11
  refine ok_loop (I := fun (z : Int32 × Int32 × Int32 × Int32 × Sg) => z.2.2.2.2 = sg ∧ 0 ≤ z.1.toInt ∧ z.1.toInt ≤ 4095 ∧ 0 ≤ z.2.1.toInt ∧ z.2.1.toInt ≤ 4095 ∧ 0 ≤ z.2.2.1.toInt ∧ z.2.2.1.toInt ≤ 4095 ∧ 0 ≤ z.2.2.2.1.toInt ∧ z.2.2.2.1.toInt ≤ 12 ∧ (z.1.toInt < pw z.2.2.2.2) ∧ (pw z.2.2.2.2 ≤ (z.2.2.2.2 99 63).toInt) ∧ (z.2.2.1.toInt < pw z.2.2.2.2)) (m := fun (z : Int32 × Int32 × Int32 × Int32 × Sg) => (13 - z.2.2.2.1.toInt).toNat) _ ?_ ?_ _ ?_
  · intro z hz
    obtain ⟨h0, h1, h2, h3, h4, h5, h6, h7, h8, h9, h10, h11⟩ := hz
    show (13 - z.2.2.2.1.toInt).toNat < 10000
    omega
  · intro rec z hz hrec
    obtain ⟨v1, v2, v3, v4, sg1⟩ := z
    replace hz : sg1 = sg ∧ 0 ≤ v1.toInt ∧ v1.toInt ≤ 4095 ∧ 0 ≤ v2.toInt ∧ v2.toInt ≤ 4095 ∧ 0 ≤ v3.toInt ∧ v3.toInt ≤ 4095 ∧ 0 ≤ v4.toInt ∧ v4.toInt ≤ 12 ∧ (v1.toInt < pw sg1) ∧ (pw sg1 ≤ (sg1 99 63).toInt) ∧ (v3.toInt < pw sg1) := hz
    obtain ⟨h0, h1, h2, h3, h4, h5, h6, h7, h8, h9, h10, h11⟩ := hz
    subst sg1
    show Ok (PXC sg 0 4095 (fun (y : Int) => 0 ≤ y ∧ y < pw sg)) (fX9_bestChoices_11 rec v1 v2 v3 v4 sg)
    exact sX9_bestChoices_11 hI h1 h2 h3 h4 h5 h6 h7 h8 h9 h10 h11 (fun v1' v2' v3' v4' g0 g1 g2 g3 g4 g5 g6 g7 g8 g9 g10 g11 => hrec (v1', v2', v3', v4', sg) ⟨rfl, g0, g1, g2, g3, g4, g5, g6, g7, g8, g9, g10⟩ (show (13 - v4'.toInt).toNat < (13 - v4.toInt).toNat by omega))
  · exact ⟨rfl, v1l, v1h, v2l, v2h, v3l, v3h, v4l, v4h, xa, xb, xf⟩
set_option maxHeartbeats 4000000 in
theorem sX9_bestChoices {v1 : Int32} {sg : Sg} (hI : IC sg) (v1l : 0 ≤ v1.toInt) (v1h : v1.toInt ≤ 4095) (xa : v1.toInt < pw sg) (xb : pw sg ≤ (sg 99 63).toInt) : Ok (PXC sg 0 4095 (fun (y : Int) => 0 ≤ y ∧ y < pw sg)) (fX9_bestChoices v1 sg) := by
  unfold fX9_bestChoices
  refine bnd2_pxC (sX9_choices (v1 := v1) hI (by omega) (by omega)) (fun y1 qy1 zy1 xy1 => ?_)
  replace xy1 : 0 ≤ y1.toInt ∧ y1.toInt < pw sg := xy1
  have k1 : (0 : Int32).toInt = 0 := by decide
  exact sLX9_bestChoices_11 hI (by omega) (by omega) (by omega) (by omega) (by omega) (by omega) (by omega) (by omega) (by omega) (by omega) (by omega)
set_option maxHeartbeats 4000000 in
theorem sX5_append {v1 : Int32} {sg : Sg} (hI : IC sg) (v1l : 0 ≤ v1.toInt) (v1h : v1.toInt ≤ 11) : Ok (PVC MX5_append sg) (fX5_append v1 sg) := by
  have hS : StC MX5_append sg sg := StC.rf hI
  unfold fX5_append
  refine ok_ite (fun c1 => ?_) (fun c1 => ?_)
  · have k2 : (12 : Int32).toInt = 12 := by decide
    have f3 := rdC5_0 hS.1.1
    replace c1 := i_le.mp c1
    exact ok_some (mkPVC hS)
  · have k4 : (12 : Int32).toInt = 12 := by decide
    have f5 := rdC5_0 hS.1.1
    replace c1 := i_nle.mp c1
    refine ok_gin (by omega) (by omega) ?_
    refine ok_lt (fun sg3 esg3 => ?_)
    have hS6 := upC31 hS (by decide) esg3 (by omega) (by omega)
    have e7 : (sg3 5 0).toInt = (sg 5 0).toInt := by rw [esg3]; rfl
    have f8 := rdC5_0 hS6.1.1
    refine ok_lt (fun x4 ex4 => ?_)
    replace ex4 : x4.toInt = (sg3 5 0).toInt + 1 := by rw [ex4]; exact add_c 1 (by decide) (by omega) (by omega)
    refine ok_lt (fun sg5 esg5 => ?_)
    have hS9 := upC5_0 hS6 (by decide) esg5 (by omega) (by omega)
    have e10 : (sg5 5 0).toInt = x4.toInt := by rw [esg5]; rfl
    exact ok_some (mkPVC hS9)
set_option maxHeartbeats 4000000 in
theorem sX9_bringInHand_112 {s0 : Sg} {r14 : (Int64 × Int32 × Int32 × Sg) → Option (Sg)} {v4 : Int64} {v6 : Int32} {v7 : Int32} {v9 : Int32} {sg : Sg} (hS : StC MX9_bringInHand s0 sg) (v6l : 0 ≤ v6.toInt) (v6h : v6.toInt ≤ 4095) (v7l : 0 ≤ v7.toInt) (v7h : v7.toInt ≤ 11) (v9l : (-1) ≤ v9.toInt) (v9h : v9.toInt ≤ 11) (xa : v6.toInt < pw sg) (xb : pw sg ≤ (sg 99 63).toInt) (xc : pw sg ≤ (sg 99 64).toInt) (xf : v9.toInt < (sg 3 2).toInt) (hr14 : ∀ (v4' : Int64) (v6' : Int32) (v7' : Int32) (sg' : Sg), StC MX9_bringInHand s0 sg' → 0 ≤ v6'.toInt → v6'.toInt ≤ 4095 → 0 ≤ v7'.toInt → v7'.toInt ≤ 12 → (v6'.toInt < pw sg') → (pw sg' ≤ (sg' 99 63).toInt) → (pw sg' ≤ (sg' 99 64).toInt) → v7.toInt < v7'.toInt → Ok (PVC MX9_bringInHand s0) (r14 (v4', v6', v7', sg'))) : Ok (PVC MX9_bringInHand s0) (fX9_bringInHand_112 r14 v4 v6 v7 v9 sg) := by
  unfold fX9_bringInHand_112
  refine ok_ite (fun c1 => ?_) (fun c1 => ?_)
  · have k2 : (-1 : Int32).toInt = -1 := by decide
    replace c1 := i_eq.mp c1
    exact ok_some (mkPVC hS)
  · have k3 : (-1 : Int32).toInt = -1 := by decide
    replace c1 := i_ne.mp c1
    refine ok_gin (by omega) (by omega) ?_
    have f4 := rdC17 hS.1.1 (j := v9.toNatClampNeg)
    refine bnd1_pvC (sX5_append (v1 := (sg 17 v9.toNatClampNeg)) hS.1 (by omega) (by omega)) (fun sg3 hsg3 => ?_)
    have e5 : pw sg3 = pw sg := pw_cg (congrFun (hsg3.fr 3 (by decide)) _)
    have e6 : (sg3 3 2).toInt = (sg 3 2).toInt := congrArg Int32.toInt (congrFun (hsg3.fr 3 (by decide)) _)
    have e7 : (sg3 99 63).toInt = (sg 99 63).toInt := congrArg Int32.toInt (congrFun (hsg3.fr 99 (by decide)) _)
    have e8 : (sg3 99 64).toInt = (sg 99 64).toInt := congrArg Int32.toInt (congrFun (hsg3.fr 99 (by decide)) _)
    have hS9 := hS.tr hsg3 (by decide)
    have f10 := shl_i (v := v9) 11 2048 (by decide) (by decide) (by omega) (by omega)
    have f11 := rdC3_2 hS9.1.1
    have f12 := or_pw (sg := sg3) (a := v6) (v := v9) (by omega) (by omega) (by omega) (by omega) (by omega)
    have f13 := or_i (a := v6) (b := ((1 : Int32) <<< (v9 &&& 31))) 12 4096 (by decide) (by decide) (by omega) (by omega) (by omega) (by omega)
    refine ok_lt (fun x5 ex5 => ?_)
    replace ex5 := congrArg Int32.toInt ex5
    refine ok_lt (fun x6 ex6 => ?_)
    replace ex6 : x6.toInt = v7.toInt + 1 := by rw [ex6]; exact add_c 1 (by decide) (by omega) (by omega)
    exact hr14 v4 x5 x6 sg3 hS9 (by omega) (by omega) (by omega) (by omega) (by omega) (by omega) (by omega) (by omega)
