set_option maxHeartbeats 4000000 in
theorem sX5_reverse_2 {s0 : Sg} {r2 : (Int32 × Sg) → Option (Sg)} {v1 : Int32} {sg : Sg} (hS : StC MX5_reverse s0 sg) (v1l : 0 ≤ v1.toInt) (v1h : v1.toInt ≤ 6) (hr2 : ∀ (v1' : Int32) (sg' : Sg), StC MX5_reverse s0 sg' → 0 ≤ v1'.toInt → v1'.toInt ≤ 6 → v1.toInt < v1'.toInt → Ok (PVC MX5_reverse s0) (r2 (v1', sg'))) : Ok (PVC MX5_reverse s0) (fX5_reverse_2 r2 v1 sg) := by
  unfold fX5_reverse_2
  refine ok_ite (fun c1 => ?_) (fun c1 => ?_)
  · have f2 := rdC5_0 hS.1.1
    have f3 := div_i (a := (sg 5 0)) (b := (2 : Int32)) 2 (by decide) (by decide) (by omega)
    replace c1 := i_le.mp c1
    exact ok_some (mkPVC hS)
  · have f4 := rdC5_0 hS.1.1
    have f5 := div_i (a := (sg 5 0)) (b := (2 : Int32)) 2 (by decide) (by decide) (by omega)
    replace c1 := i_nle.mp c1
    have k6 : (1 : Int32).toInt = 1 := by decide
    have f7 := sub_i (a := (sg 5 0)) (b := (1 : Int32)) (by omega) (by omega)
    have f8 := sub_i (a := ((sg 5 0) - (1 : Int32))) (b := v1) (by omega) (by omega)
    refine ok_lt (fun x2 ex2 => ?_)
    replace ex2 := congrArg Int32.toInt ex2
    refine ok_gin (by omega) (by omega) ?_
    have f9 := rdC31 hS.1.1 (j := v1.toNatClampNeg)
    refine ok_lt (fun x4 ex4 => ?_)
    replace ex4 := congrArg Int32.toInt ex4
    refine ok_gin (by omega) (by omega) ?_
    have f10 := rdC31 hS.1.1 (j := x2.toNatClampNeg)
    refine ok_lt (fun x6 ex6 => ?_)
    replace ex6 := congrArg Int32.toInt ex6
    refine ok_gin (by omega) (by omega) ?_
    refine ok_lt (fun sg8 esg8 => ?_)
    have hS11 := upC31 hS (by decide) esg8 (by omega) (by omega)
    have e12 : (sg8 5 0).toInt = (sg 5 0).toInt := by rw [esg8]; rfl
    refine ok_gin (by omega) (by omega) ?_
    refine ok_lt (fun sg10 esg10 => ?_)
    have hS13 := upC31 hS11 (by decide) esg10 (by omega) (by omega)
    have e14 : (sg10 5 0).toInt = (sg8 5 0).toInt := by rw [esg10]; rfl
    refine ok_lt (fun x11 ex11 => ?_)
    replace ex11 : x11.toInt = v1.toInt + 1 := by rw [ex11]; exact add_c 1 (by decide) (by omega) (by omega)
    exact hr2 x11 sg10 hS13 (by omega) (by omega) (by omega)
set_option maxHeartbeats 4000000 in
theorem sLX5_reverse_2 {s0 : Sg} {v1 : Int32} {sg : Sg} (hS : StC MX5_reverse s0 sg) (v1l : 0 ≤ v1.toInt) (v1h : v1.toInt ≤ 6) : Ok (PVC MX5_reverse s0) (LX5_reverse_2 (v1, sg)) := by
  unfold LX5_reverse_2
  refine ok_loop (I := fun (z : Int32 × Sg) => StC MX5_reverse s0 z.2 ∧ 0 ≤ z.1.toInt ∧ z.1.toInt ≤ 6) (m := fun (z : Int32 × Sg) => (7 - z.1.toInt).toNat) _ ?_ ?_ _ ?_
  · intro z hz
    obtain ⟨h0, h1, h2⟩ := hz
    show (7 - z.1.toInt).toNat < 10000
    omega
  · intro rec z hz hrec
    obtain ⟨v1, sg⟩ := z
    replace hz : StC MX5_reverse s0 sg ∧ 0 ≤ v1.toInt ∧ v1.toInt ≤ 6 := hz
    obtain ⟨h0, h1, h2⟩ := hz
    show Ok (PVC MX5_reverse s0) (fX5_reverse_2 rec v1 sg)
    exact sX5_reverse_2 h0 h1 h2 (fun v1' sg' g0 g1 g2 g3 => hrec (v1', sg') ⟨g0, g1, g2⟩ (show (7 - v1'.toInt).toNat < (7 - v1.toInt).toNat by omega))
  · exact ⟨hS, v1l, v1h⟩
set_option maxHeartbeats 4000000 in
theorem sX5_reverse {sg : Sg} (hI : IC sg) : Ok (PVC MX5_reverse sg) (fX5_reverse sg) := by
  have hS : StC MX5_reverse sg sg := StC.rf hI
  unfold fX5_reverse
  have k1 : (0 : Int32).toInt = 0 := by decide
  exact sLX5_reverse_2 hS (by omega) (by omega)
set_option maxHeartbeats 4000000 in
theorem sX11_turn {sg : Sg} (hI : IC sg) : Ok (PLC MX11_turn sg) (fX11_turn sg) := by
  have hS : StC MX11_turn sg sg := StC.rf hI
  unfold fX11_turn
  refine bnd1_pvC (sX5_reverse  hS.1) (fun sg1 hsg1 => ?_)
  have hS1 := hS.tr hsg1 (by decide)
  exact ok_some (mkPLC hS1)
set_option maxHeartbeats 4000000 in
theorem sX3_followPecks_125 {s0 : Sg} {r73 : (Int32 × Sg) → Option (Sg)} {r86 : (Int32 × Int32 × Sg) → Option (Sg)} {v1 : Int32} {v2 : Int32} {sg : Sg} (hS : StC MX3_followPecks s0 sg) (v1l : 0 ≤ v1.toInt) (v1h : v1.toInt ≤ 11) (v2l : 0 ≤ v2.toInt) (v2h : v2.toInt ≤ 11) (hr73 : ∀ (v1' : Int32) (sg' : Sg), StC MX3_followPecks s0 sg' → 0 ≤ v1'.toInt → v1'.toInt ≤ 12 → v1.toInt < v1'.toInt → Ok (PVC MX3_followPecks s0) (r73 (v1', sg'))) (hr86 : ∀ (v1' : Int32) (v2' : Int32) (sg' : Sg), StC MX3_followPecks s0 sg' → 0 ≤ v1'.toInt → v1'.toInt ≤ 11 → 0 ≤ v2'.toInt → v2'.toInt ≤ 12 → (∀ (v1'' : Int32) (sg'' : Sg), StC MX3_followPecks s0 sg'' → 0 ≤ v1''.toInt → v1''.toInt ≤ 12 → v1'.toInt < v1''.toInt → Ok (PVC MX3_followPecks s0) (r73 (v1'', sg''))) → v2.toInt < v2'.toInt → Ok (PVC MX3_followPecks s0) (r86 (v1', v2', sg'))) : Ok (PVC MX3_followPecks s0) (fX3_followPecks_125 r73 r86 v1 v2 sg) := by
  unfold fX3_followPecks_125
  refine ok_lt (fun x1 ex1 => ?_)
  replace ex1 : x1.toInt = v2.toInt + 1 := by rw [ex1]; exact add_c 1 (by decide) (by omega) (by omega)
  exact hr86 v1 x1 sg hS (by omega) (by omega) (by omega) (by omega) hr73 (by omega)
set_option maxHeartbeats 4000000 in
theorem sX3_followPecks_86 {s0 : Sg} {r73 : (Int32 × Sg) → Option (Sg)} {r86 : (Int32 × Int32 × Sg) → Option (Sg)} {v1 : Int32} {v2 : Int32} {sg : Sg} (hS : StC MX3_followPecks s0 sg) (v1l : 0 ≤ v1.toInt) (v1h : v1.toInt ≤ 11) (v2l : 0 ≤ v2.toInt) (v2h : v2.toInt ≤ 12) (hr73 : ∀ (v1' : Int32) (sg' : Sg), StC MX3_followPecks s0 sg' → 0 ≤ v1'.toInt → v1'.toInt ≤ 12 → v1.toInt < v1'.toInt → Ok (PVC MX3_followPecks s0) (r73 (v1', sg'))) (hr86 : ∀ (v1' : Int32) (v2' : Int32) (sg' : Sg), StC MX3_followPecks s0 sg' → 0 ≤ v1'.toInt → v1'.toInt ≤ 11 → 0 ≤ v2'.toInt → v2'.toInt ≤ 12 → (∀ (v1'' : Int32) (sg'' : Sg), StC MX3_followPecks s0 sg'' → 0 ≤ v1''.toInt → v1''.toInt ≤ 12 → v1'.toInt < v1''.toInt → Ok (PVC MX3_followPecks s0) (r73 (v1'', sg''))) → v2.toInt < v2'.toInt → Ok (PVC MX3_followPecks s0) (r86 (v1', v2', sg'))) : Ok (PVC MX3_followPecks s0) (fX3_followPecks_86 r73 r86 v1 v2 sg) := by
  unfold fX3_followPecks_86
  refine ok_ite (fun c1 => ?_) (fun c1 => ?_)
  · have f2 := rdC3_2 hS.1.1
    replace c1 := i_le.mp c1
    refine ok_lt (fun x2 ex2 => ?_)
    replace ex2 : x2.toInt = v1.toInt + 1 := by rw [ex2]; exact add_c 1 (by decide) (by omega) (by omega)
    exact hr73 x2 sg hS (by omega) (by omega) (by omega)
  · have f3 := rdC3_2 hS.1.1
    replace c1 := i_nle.mp c1
    refine ok_gin (by omega) (by omega) ?_
    have f4 := rdC36 hS.1.1 (j := v2.toNatClampNeg)
    refine bnd2_pxC (sX11_isIn (v0 := (sg 36 v2.toNatClampNeg)) (v1 := v1) hS.1 (by omega) (by omega) (by omega) (by omega)) (fun y4 qy4 zy4 xy4 => ?_)
    replace xy4 : y4.toInt = 0 ∨ 0 < ((sg 36 v2.toNatClampNeg) >>> (v1 &&& 31)).toInt := xy4
    refine ok_ite (fun c5 => ?_) (fun c5 => ?_)
    · have k6 : (0 : Int32).toInt = 0 := by decide
      replace c5 := i_eq.mp c5
      exact sX3_followPecks_125 hS (by omega) (by omega) (by omega) (by omega) hr73 hr86
    · have k7 : (0 : Int32).toInt = 0 := by decide
      replace c5 := i_ne.mp c5
      refine ok_gin (by omega) (by omega) ?_
      refine ok_gin (by omega) (by omega) ?_
      have f8 := rdC36 hS.1.1 (j := v1.toNatClampNeg)
      have f9 := or_i (a := (sg 36 v2.toNatClampNeg)) (b := (sg 36 v1.toNatClampNeg)) 12 4096 (by decide) (by decide) (by omega) (by omega) (by omega) (by omega)
      refine ok_lt (fun x11 ex11 => ?_)
      replace ex11 := congrArg Int32.toInt ex11
      refine ok_gin (by omega) (by omega) ?_
      refine ok_lt (fun sg13 esg13 => ?_)
      have hS10 := upC36 hS (by decide) esg13 (by omega) (by omega)
      have e11 : (sg13 3 2).toInt = (sg 3 2).toInt := by rw [esg13]; rfl
      exact sX3_followPecks_125 hS10 (by omega) (by omega) (by omega) (by omega) hr73 hr86
set_option maxHeartbeats 4000000 in
theorem sLX3_followPecks_86 {s0 : Sg} {r73 : (Int32 × Sg) → Option (Sg)} {v1 : Int32} {v2 : Int32} {sg : Sg} (hS : StC MX3_followPecks s0 sg) (v1l : 0 ≤ v1.toInt) (v1h : v1.toInt ≤ 11) (v2l : 0 ≤ v2.toInt) (v2h : v2.toInt ≤ 12) (hr73 : ∀ (v1' : Int32) (sg' : Sg), StC MX3_followPecks s0 sg' → 0 ≤ v1'.toInt → v1'.toInt ≤ 12 → v1.toInt < v1'.toInt → Ok (PVC MX3_followPecks s0) (r73 (v1', sg'))) : Ok (PVC MX3_followPecks s0) (LX3_followPecks_86 r73 (v1, v2, sg)) := by
  unfold LX3_followPecks_86
  refine ok_loop (I := fun (z : Int32 × Int32 × Sg) => StC MX3_followPecks s0 z.2.2 ∧ 0 ≤ z.1.toInt ∧ z.1.toInt ≤ 11 ∧ 0 ≤ z.2.1.toInt ∧ z.2.1.toInt ≤ 12 ∧ (∀ (v1' : Int32) (sg' : Sg), StC MX3_followPecks s0 sg' → 0 ≤ v1'.toInt → v1'.toInt ≤ 12 → z.1.toInt < v1'.toInt → Ok (PVC MX3_followPecks s0) (r73 (v1', sg')))) (m := fun (z : Int32 × Int32 × Sg) => (13 - z.2.1.toInt).toNat) _ ?_ ?_ _ ?_
  · intro z hz
    obtain ⟨h0, h1, h2, h3, h4, h5⟩ := hz
    show (13 - z.2.1.toInt).toNat < 10000
    omega
  · intro rec z hz hrec
    obtain ⟨v1, v2, sg⟩ := z
    replace hz : StC MX3_followPecks s0 sg ∧ 0 ≤ v1.toInt ∧ v1.toInt ≤ 11 ∧ 0 ≤ v2.toInt ∧ v2.toInt ≤ 12 ∧ (∀ (v1' : Int32) (sg' : Sg), StC MX3_followPecks s0 sg' → 0 ≤ v1'.toInt → v1'.toInt ≤ 12 → v1.toInt < v1'.toInt → Ok (PVC MX3_followPecks s0) (r73 (v1', sg'))) := hz
    obtain ⟨h0, h1, h2, h3, h4, h5⟩ := hz
    show Ok (PVC MX3_followPecks s0) (fX3_followPecks_86 r73 rec v1 v2 sg)
    exact sX3_followPecks_86 h0 h1 h2 h3 h4 h5 (fun v1' v2' sg' g0 g1 g2 g3 g4 g5 g6 => hrec (v1', v2', sg') ⟨g0, g1, g2, g3, g4, g5⟩ (show (13 - v2'.toInt).toNat < (13 - v2.toInt).toNat by omega))
  · exact ⟨hS, v1l, v1h, v2l, v2h, hr73⟩
set_option maxHeartbeats 4000000 in
theorem sX3_followPecks_73 {s0 : Sg} {r73 : (Int32 × Sg) → Option (Sg)} {v1 : Int32} {sg : Sg} (hS : StC MX3_followPecks s0 sg) (v1l : 0 ≤ v1.toInt) (v1h : v1.toInt ≤ 12) (hr73 : ∀ (v1' : Int32) (sg' : Sg), StC MX3_followPecks s0 sg' → 0 ≤ v1'.toInt → v1'.toInt ≤ 12 → v1.toInt < v1'.toInt → Ok (PVC MX3_followPecks s0) (r73 (v1', sg'))) : Ok (PVC MX3_followPecks s0) (fX3_followPecks_73 r73 v1 sg) := by
  unfold fX3_followPecks_73
  refine ok_ite (fun c1 => ?_) (fun c1 => ?_)
  · have f2 := rdC3_2 hS.1.1
    replace c1 := i_le.mp c1
    exact ok_some (mkPVC hS)
  · have f3 := rdC3_2 hS.1.1
    replace c1 := i_nle.mp c1
    have k4 : (0 : Int32).toInt = 0 := by decide
    exact sLX3_followPecks_86 hS (by omega) (by omega) (by omega) (by omega) hr73
set_option maxHeartbeats 4000000 in
theorem sLX3_followPecks_73 {s0 : Sg} {v1 : Int32} {sg : Sg} (hS : StC MX3_followPecks s0 sg) (v1l : 0 ≤ v1.toInt) (v1h : v1.toInt ≤ 12) : Ok (PVC MX3_followPecks s0) (LX3_followPecks_73 (v1, sg)) := by
  unfold LX3_followPecks_73
  refine ok_loop (I := fun (z : Int32 × Sg) => StC MX3_followPecks s0 z.2 ∧ 0 ≤ z.1.toInt ∧ z.1.toInt ≤ 12) (m := fun (z : Int32 × Sg) => (13 - z.1.toInt).toNat) _ ?_ ?_ _ ?_
  · intro z hz
    obtain ⟨h0, h1, h2⟩ := hz
    show (13 - z.1.toInt).toNat < 10000
    omega
  · intro rec z hz hrec
    obtain ⟨v1, sg⟩ := z
    replace hz : StC MX3_followPecks s0 sg ∧ 0 ≤ v1.toInt ∧ v1.toInt ≤ 12 := hz
    obtain ⟨h0, h1, h2⟩ := hz
    show Ok (PVC MX3_followPecks s0) (fX3_followPecks_73 rec v1 sg)
    exact sX3_followPecks_73 h0 h1 h2 (fun v1' sg' g0 g1 g2 g3 => hrec (v1', sg') ⟨g0, g1, g2⟩ (show (13 - v1'.toInt).toNat < (13 - v1.toInt).toNat by omega))
  · exact ⟨hS, v1l, v1h⟩
set_option maxHeartbeats 4000000 in
theorem sX3_followPecks_59 {s0 : Sg} {r2 : (Int32 × Sg) → Option (Sg)} {r24 : (Int32 × Int32 × Sg) → Option (Sg)} {v1 : Int32} {v2 : Int32} {sg : Sg} (hS : StC MX3_followPecks s0 sg) (v1l : 0 ≤ v1.toInt) (v1h : v1.toInt ≤ 11) (v2l : 0 ≤ v2.toInt) (v2h : v2.toInt ≤ 11) (hr2 : ∀ (v1' : Int32) (sg' : Sg), StC MX3_followPecks s0 sg' → 0 ≤ v1'.toInt → v1'.toInt ≤ 12 → v1.toInt < v1'.toInt → Ok (PVC MX3_followPecks s0) (r2 (v1', sg'))) (hr24 : ∀ (v1' : Int32) (v2' : Int32) (sg' : Sg), StC MX3_followPecks s0 sg' → 0 ≤ v1'.toInt → v1'.toInt ≤ 11 → 0 ≤ v2'.toInt → v2'.toInt ≤ 12 → (∀ (v1'' : Int32) (sg'' : Sg), StC MX3_followPecks s0 sg'' → 0 ≤ v1''.toInt → v1''.toInt ≤ 12 → v1'.toInt < v1''.toInt → Ok (PVC MX3_followPecks s0) (r2 (v1'', sg''))) → v2.toInt < v2'.toInt → Ok (PVC MX3_followPecks s0) (r24 (v1', v2', sg'))) : Ok (PVC MX3_followPecks s0) (fX3_followPecks_59 r2 r24 v1 v2 sg) := by
  unfold fX3_followPecks_59
  refine ok_lt (fun x1 ex1 => ?_)
  replace ex1 : x1.toInt = v2.toInt + 1 := by rw [ex1]; exact add_c 1 (by decide) (by omega) (by omega)
  exact hr24 v1 x1 sg hS (by omega) (by omega) (by omega) (by omega) hr2 (by omega)
set_option maxHeartbeats 4000000 in
theorem sX3_followPecks_24 {s0 : Sg} {r2 : (Int32 × Sg) → Option (Sg)} {r24 : (Int32 × Int32 × Sg) → Option (Sg)} {v1 : Int32} {v2 : Int32} {sg : Sg} (hS : StC MX3_followPecks s0 sg) (v1l : 0 ≤ v1.toInt) (v1h : v1.toInt ≤ 11) (v2l : 0 ≤ v2.toInt) (v2h : v2.toInt ≤ 12) (hr2 : ∀ (v1' : Int32) (sg' : Sg), StC MX3_followPecks s0 sg' → 0 ≤ v1'.toInt → v1'.toInt ≤ 12 → v1.toInt < v1'.toInt → Ok (PVC MX3_followPecks s0) (r2 (v1', sg'))) (hr24 : ∀ (v1' : Int32) (v2' : Int32) (sg' : Sg), StC MX3_followPecks s0 sg' → 0 ≤ v1'.toInt → v1'.toInt ≤ 11 → 0 ≤ v2'.toInt → v2'.toInt ≤ 12 → (∀ (v1'' : Int32) (sg'' : Sg), StC MX3_followPecks s0 sg'' → 0 ≤ v1''.toInt → v1''.toInt ≤ 12 → v1'.toInt < v1''.toInt → Ok (PVC MX3_followPecks s0) (r2 (v1'', sg''))) → v2.toInt < v2'.toInt → Ok (PVC MX3_followPecks s0) (r24 (v1', v2', sg'))) : Ok (PVC MX3_followPecks s0) (fX3_followPecks_24 r2 r24 v1 v2 sg) := by
  unfold fX3_followPecks_24
  refine ok_ite (fun c1 => ?_) (fun c1 => ?_)
  · have f2 := rdC3_2 hS.1.1
    replace c1 := i_le.mp c1
    refine ok_lt (fun x2 ex2 => ?_)
    replace ex2 : x2.toInt = v1.toInt + 1 := by rw [ex2]; exact add_c 1 (by decide) (by omega) (by omega)
    exact hr2 x2 sg hS (by omega) (by omega) (by omega)
  · have f3 := rdC3_2 hS.1.1
    replace c1 := i_nle.mp c1
    refine bnd2_puC (sX8_peckOf (v1 := v1) (v2 := v2) hS.1 (by omega) (by omega) (by omega) (by omega)) (fun y3 qy3 zy3 => ?_)
    refine ok_ite (fun c4 => ?_) (fun c4 => ?_)
    · have k5 : (0 : Int32).toInt = 0 := by decide
      replace c4 := i_le.mp c4
      exact sX3_followPecks_59 hS (by omega) (by omega) (by omega) (by omega) hr2 hr24
    · have k6 : (0 : Int32).toInt = 0 := by decide
      replace c4 := i_nle.mp c4
      refine ok_gin (by omega) (by omega) ?_
      have f7 := rdC36 hS.1.1 (j := v1.toNatClampNeg)
      have f8 := shl_i (v := v2) 11 2048 (by decide) (by decide) (by omega) (by omega)
      have f9 := or_i (a := (sg 36 v1.toNatClampNeg)) (b := ((1 : Int32) <<< (v2 &&& 31))) 12 4096 (by decide) (by decide) (by omega) (by omega) (by omega) (by omega)
      refine ok_lt (fun x8 ex8 => ?_)
      replace ex8 := congrArg Int32.toInt ex8
      refine ok_gin (by omega) (by omega) ?_
      refine ok_lt (fun sg10 esg10 => ?_)
      have hS10 := upC36 hS (by decide) esg10 (by omega) (by omega)
      have e11 : (sg10 3 2).toInt = (sg 3 2).toInt := by rw [esg10]; rfl
      exact sX3_followPecks_59 hS10 (by omega) (by omega) (by omega) (by omega) hr2 hr24
set_option maxHeartbeats 4000000 in
theorem sLX3_followPecks_24 {s0 : Sg} {r2 : (Int32 × Sg) → Option (Sg)} {v1 : Int32} {v2 : Int32} {sg : Sg} (hS : StC MX3_followPecks s0 sg) (v1l : 0 ≤ v1.toInt) (v1h : v1.toInt ≤ 11) (v2l : 0 ≤ v2.toInt) (v2h : v2.toInt ≤ 12) (hr2 : ∀ (v1' : Int32) (sg' : Sg), StC MX3_followPecks s0 sg' → 0 ≤ v1'.toInt → v1'.toInt ≤ 12 → v1.toInt < v1'.toInt → Ok (PVC MX3_followPecks s0) (r2 (v1', sg'))) : Ok (PVC MX3_followPecks s0) (LX3_followPecks_24 r2 (v1, v2, sg)) := by
  unfold LX3_followPecks_24
  refine ok_loop (I := fun (z : Int32 × Int32 × Sg) => StC MX3_followPecks s0 z.2.2 ∧ 0 ≤ z.1.toInt ∧ z.1.toInt ≤ 11 ∧ 0 ≤ z.2.1.toInt ∧ z.2.1.toInt ≤ 12 ∧ (∀ (v1' : Int32) (sg' : Sg), StC MX3_followPecks s0 sg' → 0 ≤ v1'.toInt → v1'.toInt ≤ 12 → z.1.toInt < v1'.toInt → Ok (PVC MX3_followPecks s0) (r2 (v1', sg')))) (m := fun (z : Int32 × Int32 × Sg) => (13 - z.2.1.toInt).toNat) _ ?_ ?_ _ ?_
  · intro z hz
    obtain ⟨h0, h1, h2, h3, h4, h5⟩ := hz
    show (13 - z.2.1.toInt).toNat < 10000
    omega
  · intro rec z hz hrec
    obtain ⟨v1, v2, sg⟩ := z
    replace hz : StC MX3_followPecks s0 sg ∧ 0 ≤ v1.toInt ∧ v1.toInt ≤ 11 ∧ 0 ≤ v2.toInt ∧ v2.toInt ≤ 12 ∧ (∀ (v1' : Int32) (sg' : Sg), StC MX3_followPecks s0 sg' → 0 ≤ v1'.toInt → v1'.toInt ≤ 12 → v1.toInt < v1'.toInt → Ok (PVC MX3_followPecks s0) (r2 (v1', sg'))) := hz
    obtain ⟨h0, h1, h2, h3, h4, h5⟩ := hz
    show Ok (PVC MX3_followPecks s0) (fX3_followPecks_24 r2 rec v1 v2 sg)
    exact sX3_followPecks_24 h0 h1 h2 h3 h4 h5 (fun v1' v2' sg' g0 g1 g2 g3 g4 g5 g6 => hrec (v1', v2', sg') ⟨g0, g1, g2, g3, g4, g5⟩ (show (13 - v2'.toInt).toNat < (13 - v2.toInt).toNat by omega))
  · exact ⟨hS, v1l, v1h, v2l, v2h, hr2⟩
set_option maxHeartbeats 4000000 in
theorem sX3_followPecks_2 {s0 : Sg} {r2 : (Int32 × Sg) → Option (Sg)} {v1 : Int32} {sg : Sg} (hS : StC MX3_followPecks s0 sg) (v1l : 0 ≤ v1.toInt) (v1h : v1.toInt ≤ 12) (hr2 : ∀ (v1' : Int32) (sg' : Sg), StC MX3_followPecks s0 sg' → 0 ≤ v1'.toInt → v1'.toInt ≤ 12 → v1.toInt < v1'.toInt → Ok (PVC MX3_followPecks s0) (r2 (v1', sg'))) : Ok (PVC MX3_followPecks s0) (fX3_followPecks_2 r2 v1 sg) := by
  unfold fX3_followPecks_2
  refine ok_ite (fun c1 => ?_) (fun c1 => ?_)
  · have f2 := rdC3_2 hS.1.1
    replace c1 := i_le.mp c1
    have k3 : (0 : Int32).toInt = 0 := by decide
    exact sLX3_followPecks_73 hS (by omega) (by omega)
  · have f4 := rdC3_2 hS.1.1
    replace c1 := i_nle.mp c1
    have f5 := shl_i (v := v1) 11 2048 (by decide) (by decide) (by omega) (by omega)
    refine ok_lt (fun x2 ex2 => ?_)
    replace ex2 := congrArg Int32.toInt ex2
    refine ok_gin (by omega) (by omega) ?_
    refine ok_lt (fun sg4 esg4 => ?_)
    have hS6 := upC36 hS (by decide) esg4 (by omega) (by omega)
    have e7 : (sg4 3 2).toInt = (sg 3 2).toInt := by rw [esg4]; rfl
    have k8 : (0 : Int32).toInt = 0 := by decide
    exact sLX3_followPecks_24 hS6 (by omega) (by omega) (by omega) (by omega) hr2
set_option maxHeartbeats 4000000 in
theorem sLX3_followPecks_2 {s0 : Sg} {v1 : Int32} {sg : Sg} (hS : StC MX3_followPecks s0 sg) (v1l : 0 ≤ v1.toInt) (v1h : v1.toInt ≤ 12) : Ok (PVC MX3_followPecks s0) (LX3_followPecks_2 (v1, sg)) := by
  unfold LX3_followPecks_2
  refine ok_loop (I := fun (z : Int32 × Sg) => StC MX3_followPecks s0 z.2 ∧ 0 ≤ z.1.toInt ∧ z.1.toInt ≤ 12) (m := fun (z : Int32 × Sg) => (13 - z.1.toInt).toNat) _ ?_ ?_ _ ?_
  · intro z hz
    obtain ⟨h0, h1, h2⟩ := hz
    show (13 - z.1.toInt).toNat < 10000
    omega
  · intro rec z hz hrec
    obtain ⟨v1, sg⟩ := z
    replace hz : StC MX3_followPecks s0 sg ∧ 0 ≤ v1.toInt ∧ v1.toInt ≤ 12 := hz
    obtain ⟨h0, h1, h2⟩ := hz
    show Ok (PVC MX3_followPecks s0) (fX3_followPecks_2 rec v1 sg)
    exact sX3_followPecks_2 h0 h1 h2 (fun v1' sg' g0 g1 g2 g3 => hrec (v1', sg') ⟨g0, g1, g2⟩ (show (13 - v1'.toInt).toNat < (13 - v1.toInt).toNat by omega))
  · exact ⟨hS, v1l, v1h⟩
set_option maxHeartbeats 4000000 in
theorem sX3_followPecks {sg : Sg} (hI : IC sg) : Ok (PVC MX3_followPecks sg) (fX3_followPecks sg) := by
  have hS : StC MX3_followPecks sg sg := StC.rf hI
  unfold fX3_followPecks
  have k1 : (0 : Int32).toInt = 0 := by decide
  exact sLX3_followPecks_2 hS (by omega) (by omega)
set_option maxHeartbeats 4000000 in
theorem sX3_comersTo_34 {r4 : (Int32 × Int32 × Int32 × Sg) → Option (Int32 × Sg)} {v1 : Int32} {v2 : Int32} {v3 : Int32} {sg : Sg} (hI : IC sg) (v1l : 0 ≤ v1.toInt) (v1h : v1.toInt ≤ 11) (v2l : 0 ≤ v2.toInt) (v2h : v2.toInt ≤ 4095) (v3l : 0 ≤ v3.toInt) (v3h : v3.toInt ≤ 11) (hr4 : ∀ (v1' : Int32) (v2' : Int32) (v3' : Int32), 0 ≤ v1'.toInt → v1'.toInt ≤ 11 → 0 ≤ v2'.toInt → v2'.toInt ≤ 4095 → 0 ≤ v3'.toInt → v3'.toInt ≤ 12 → v3.toInt < v3'.toInt → Ok (PUC sg 0 4095) (r4 (v1', v2', v3', sg))) : Ok (PUC sg 0 4095) (fX3_comersTo_34 r4 v1 v2 v3 sg) := by
  unfold fX3_comersTo_34
  refine ok_lt (fun x1 ex1 => ?_)
  replace ex1 : x1.toInt = v3.toInt + 1 := by rw [ex1]; exact add_c 1 (by decide) (by omega) (by omega)
  exact hr4 v1 v2 x1 (by omega) (by omega) (by omega) (by omega) (by omega) (by omega) (by omega)
set_option maxHeartbeats 4000000 in
theorem sX3_comersTo_4 {r4 : (Int32 × Int32 × Int32 × Sg) → Option (Int32 × Sg)} {v1 : Int32} {v2 : Int32} {v3 : Int32} {sg : Sg} (hI : IC sg) (v1l : 0 ≤ v1.toInt) (v1h : v1.toInt ≤ 11) (v2l : 0 ≤ v2.toInt) (v2h : v2.toInt ≤ 4095) (v3l : 0 ≤ v3.toInt) (v3h : v3.toInt ≤ 12) (hr4 : ∀ (v1' : Int32) (v2' : Int32) (v3' : Int32), 0 ≤ v1'.toInt → v1'.toInt ≤ 11 → 0 ≤ v2'.toInt → v2'.toInt ≤ 4095 → 0 ≤ v3'.toInt → v3'.toInt ≤ 12 → v3.toInt < v3'.toInt → Ok (PUC sg 0 4095) (r4 (v1', v2', v3', sg))) : Ok (PUC sg 0 4095) (fX3_comersTo_4 r4 v1 v2 v3 sg) := by
  unfold fX3_comersTo_4
  refine ok_ite (fun c1 => ?_) (fun c1 => ?_)
  · have f2 := rdC3_2 hI.1
    replace c1 := i_le.mp c1
    exact ok_some (mkPUC (by omega) (by omega))
  · have f3 := rdC3_2 hI.1
    replace c1 := i_nle.mp c1
    refine ok_gin (by omega) (by omega) ?_
    have f4 := rdC36 hI.1 (j := v3.toNatClampNeg)
    refine bnd2_pxC (sX11_isIn (v0 := (sg 36 v3.toNatClampNeg)) (v1 := v1) hI (by omega) (by omega) (by omega) (by omega)) (fun y3 qy3 zy3 xy3 => ?_)
    replace xy3 : y3.toInt = 0 ∨ 0 < ((sg 36 v3.toNatClampNeg) >>> (v1 &&& 31)).toInt := xy3
    refine ok_ite (fun c5 => ?_) (fun c5 => ?_)
    · have k6 : (0 : Int32).toInt = 0 := by decide
      replace c5 := i_eq.mp c5
      exact sX3_comersTo_34 hI (by omega) (by omega) (by omega) (by omega) (by omega) (by omega) hr4
    · have k7 : (0 : Int32).toInt = 0 := by decide
      replace c5 := i_ne.mp c5
      have f8 := shl_i (v := v3) 11 2048 (by decide) (by decide) (by omega) (by omega)
      have f9 := or_i (a := v2) (b := ((1 : Int32) <<< (v3 &&& 31))) 12 4096 (by decide) (by decide) (by omega) (by omega) (by omega) (by omega)
      refine ok_lt (fun x8 ex8 => ?_)
      replace ex8 := congrArg Int32.toInt ex8
      exact sX3_comersTo_34 hI (by omega) (by omega) (by omega) (by omega) (by omega) (by omega) hr4
set_option maxHeartbeats 4000000 in
theorem sLX3_comersTo_4 {v1 : Int32} {v2 : Int32} {v3 : Int32} {sg : Sg} (hI : IC sg) (v1l : 0 ≤ v1.toInt) (v1h : v1.toInt ≤ 11) (v2l : 0 ≤ v2.toInt) (v2h : v2.toInt ≤ 4095) (v3l : 0 ≤ v3.toInt) (v3h : v3.toInt ≤ 12) : Ok (PUC sg 0 4095) (LX3_comersTo_4 (v1, v2, v3, sg)) := by
  unfold LX3_comersTo_4
  refine ok_loop (I := fun (z : Int32 × Int32 × Int32 × Sg) => z.2.2.2 = sg ∧ 0 ≤ z.1.toInt ∧ z.1.toInt ≤ 11 ∧ 0 ≤ z.2.1.toInt ∧ z.2.1.toInt ≤ 4095 ∧ 0 ≤ z.2.2.1.toInt ∧ z.2.2.1.toInt ≤ 12) (m := fun (z : Int32 × Int32 × Int32 × Sg) => (13 - z.2.2.1.toInt).toNat) _ ?_ ?_ _ ?_
  · intro z hz
    obtain ⟨h0, h1, h2, h3, h4, h5, h6⟩ := hz
    show (13 - z.2.2.1.toInt).toNat < 10000
    omega
  · intro rec z hz hrec
    obtain ⟨v1, v2, v3, sg1⟩ := z
    replace hz : sg1 = sg ∧ 0 ≤ v1.toInt ∧ v1.toInt ≤ 11 ∧ 0 ≤ v2.toInt ∧ v2.toInt ≤ 4095 ∧ 0 ≤ v3.toInt ∧ v3.toInt ≤ 12 := hz
    obtain ⟨h0, h1, h2, h3, h4, h5, h6⟩ := hz
    subst sg1
    show Ok (PUC sg 0 4095) (fX3_comersTo_4 rec v1 v2 v3 sg)
    exact sX3_comersTo_4 hI h1 h2 h3 h4 h5 h6 (fun v1' v2' v3' g0 g1 g2 g3 g4 g5 g6 => hrec (v1', v2', v3', sg) ⟨rfl, g0, g1, g2, g3, g4, g5⟩ (show (13 - v3'.toInt).toNat < (13 - v3.toInt).toNat by omega))
  · exact ⟨rfl, v1l, v1h, v2l, v2h, v3l, v3h⟩
set_option maxHeartbeats 4000000 in
theorem sX3_comersTo {v1 : Int32} {sg : Sg} (hI : IC sg) (v1l : 0 ≤ v1.toInt) (v1h : v1.toInt ≤ 11) : Ok (PUC sg 0 4095) (fX3_comersTo v1 sg) := by
  unfold fX3_comersTo
  have k1 : (0 : Int32).toInt = 0 := by decide
  exact sLX3_comersTo_4 hI (by omega) (by omega) (by omega) (by omega) (by omega) (by omega)
set_option maxHeartbeats 4000000 in
theorem sX3_nextGroup_44 {r2 : (Int32 × Int32 × Sg) → Option (Int32 × Sg)} {v1 : Int32} {v2 : Int32} {sg : Sg} (hI : IC sg) (v1l : 1 ≤ v1.toInt) (v1h : v1.toInt ≤ 4095) (v2l : 0 ≤ v2.toInt) (v2h : v2.toInt ≤ 11) (hr2 : ∀ (v1' : Int32) (v2' : Int32), 1 ≤ v1'.toInt → v1'.toInt ≤ 4095 → 0 ≤ v2'.toInt → v2'.toInt ≤ 12 → v2.toInt < v2'.toInt → Ok (PUC sg 0 4095) (r2 (v1', v2', sg))) : Ok (PUC sg 0 4095) (fX3_nextGroup_44 r2 v1 v2 sg) := by
  unfold fX3_nextGroup_44
  refine ok_lt (fun x1 ex1 => ?_)
  replace ex1 : x1.toInt = v2.toInt + 1 := by rw [ex1]; exact add_c 1 (by decide) (by omega) (by omega)
  exact hr2 v1 x1 (by omega) (by omega) (by omega) (by omega) (by omega)
set_option maxHeartbeats 4000000 in
theorem sX3_nextGroup_2 {r2 : (Int32 × Int32 × Sg) → Option (Int32 × Sg)} {v1 : Int32} {v2 : Int32} {sg : Sg} (hI : IC sg) (v1l : 1 ≤ v1.toInt) (v1h : v1.toInt ≤ 4095) (v2l : 0 ≤ v2.toInt) (v2h : v2.toInt ≤ 12) (hr2 : ∀ (v1' : Int32) (v2' : Int32), 1 ≤ v1'.toInt → v1'.toInt ≤ 4095 → 0 ≤ v2'.toInt → v2'.toInt ≤ 12 → v2.toInt < v2'.toInt → Ok (PUC sg 0 4095) (r2 (v1', v2', sg))) : Ok (PUC sg 0 4095) (fX3_nextGroup_2 r2 v1 v2 sg) := by
  unfold fX3_nextGroup_2
  refine ok_ite (fun c1 => ?_) (fun c1 => ?_)
  · have f2 := rdC3_2 hI.1
    replace c1 := i_le.mp c1
    exact ok_some (mkPUC (by omega) (by omega))
  · have f3 := rdC3_2 hI.1
    replace c1 := i_nle.mp c1
    refine bnd2_pxC (sX11_isIn (v0 := v1) (v1 := v2) hI (by omega) (by omega) (by omega) (by omega)) (fun y2 qy2 zy2 xy2 => ?_)
    replace xy2 : y2.toInt = 0 ∨ 0 < (v1 >>> (v2 &&& 31)).toInt := xy2
    refine ok_ite (fun c4 => ?_) (fun c4 => ?_)
    · have k5 : (0 : Int32).toInt = 0 := by decide
      replace c4 := i_eq.mp c4
      exact sX3_nextGroup_44 hI (by omega) (by omega) (by omega) (by omega) hr2
    · have k6 : (0 : Int32).toInt = 0 := by decide
      replace c4 := i_ne.mp c4
      refine bnd2_puC (sX3_comersTo (v1 := v2) hI (by omega) (by omega)) (fun y7 qy7 zy7 => ?_)
      have f7 := and_l (a := y7) (b := v1) (by omega)
      have f8 := and_r (a := y7) (b := v1) (by omega)
      refine ok_lt (fun x10 ex10 => ?_)
      replace ex10 := congrArg Int32.toInt ex10
      refine ok_gin (by omega) (by omega) ?_
      refine ok_ite (fun c9 => ?_) (fun c9 => ?_)
      · have f10 := and_l (a := x10) (b := ((sg 36 v2.toNatClampNeg) ^^^ (-1 : Int32))) (by omega)
        replace c9 := i_eq.mp c9
        exact ok_some (mkPUC (by omega) (by omega))
      · have f11 := and_l (a := x10) (b := ((sg 36 v2.toNatClampNeg) ^^^ (-1 : Int32))) (by omega)
        replace c9 := i_ne.mp c9
        exact sX3_nextGroup_44 hI (by omega) (by omega) (by omega) (by omega) hr2
set_option maxHeartbeats 4000000 in
theorem sLX3_nextGroup_2 {v1 : Int32} {v2 : Int32} {sg : Sg} (hI : IC sg) (v1l : 1 ≤ v1.toInt) (v1h : v1.toInt ≤ 4095) (v2l : 0 ≤ v2.toInt) (v2h : v2.toInt ≤ 12) : Ok (PUC sg 0 4095) (LX3_nextGroup_2 (v1, v2, sg)) := by
  unfold LX3_nextGroup_2
  refine ok_loop (I := fun (z : Int32 × Int32 × Sg) => z.2.2 = sg ∧ 1 ≤ z.1.toInt ∧ z.1.toInt ≤ 4095 ∧ 0 ≤ z.2.1.toInt ∧ z.2.1.toInt ≤ 12) (m := fun (z : Int32 × Int32 × Sg) => (13 - z.2.1.toInt).toNat) _ ?_ ?_ _ ?_
  · intro z hz
    obtain ⟨h0, h1, h2, h3, h4⟩ := hz
    show (13 - z.2.1.toInt).toNat < 10000
    omega
  · intro rec z hz hrec
    obtain ⟨v1, v2, sg1⟩ := z
    replace hz : sg1 = sg ∧ 1 ≤ v1.toInt ∧ v1.toInt ≤ 4095 ∧ 0 ≤ v2.toInt ∧ v2.toInt ≤ 12 := hz
    obtain ⟨h0, h1, h2, h3, h4⟩ := hz
    subst sg1
    show Ok (PUC sg 0 4095) (fX3_nextGroup_2 rec v1 v2 sg)
    exact sX3_nextGroup_2 hI h1 h2 h3 h4 (fun v1' v2' g0 g1 g2 g3 g4 => hrec (v1', v2', sg) ⟨rfl, g0, g1, g2, g3⟩ (show (13 - v2'.toInt).toNat < (13 - v2.toInt).toNat by omega))
  · exact ⟨rfl, v1l, v1h, v2l, v2h⟩
set_option maxHeartbeats 4000000 in
theorem sX3_nextGroup {v1 : Int32} {sg : Sg} (hI : IC sg) (v1l : 1 ≤ v1.toInt) (v1h : v1.toInt ≤ 4095) : Ok (PUC sg 0 4095) (fX3_nextGroup v1 sg) := by
  unfold fX3_nextGroup
  have k1 : (0 : Int32).toInt = 0 := by decide
  exact sLX3_nextGroup_2 hI (by omega) (by omega) (by omega) (by omega)
set_option maxHeartbeats 4000000 in
theorem sX3_settle_108 {s0 : Sg} {r52 : (Int32 × Int32 × Sg) → Option (Sg)} {r76 : (Int32 × Int32 × Int32 × Int32 × Sg) → Option (Sg)} {v1 : Int32} {v2 : Int32} {v3 : Int32} {v4 : Int32} {sg : Sg} (hS : StC MX3_settle s0 sg) (v1l : 1 ≤ v1.toInt) (v1h : v1.toInt ≤ 4095) (v2l : 0 ≤ v2.toInt) (v2h : v2.toInt ≤ 11) (v3l : 0 ≤ v3.toInt) (v3h : v3.toInt ≤ 4095) (v4l : 0 ≤ v4.toInt) (v4h : v4.toInt ≤ 11) (xq : (sg 3 1).toInt = (sg 1 1).toInt) (hr52 : ∀ (v1' : Int32) (v2' : Int32) (sg' : Sg), StC MX3_settle s0 sg' → 0 ≤ v1'.toInt → v1'.toInt ≤ 4095 → 0 ≤ v2'.toInt → v2'.toInt ≤ 12 → ((sg' 3 1).toInt = (sg' 1 1).toInt) → v2.toInt < v2'.toInt → Ok (PVXC MX3_settle s0 (fun r => (r 3 1).toInt = (r 1 1).toInt)) (r52 (v1', v2', sg'))) (hr76 : ∀ (v1' : Int32) (v2' : Int32) (v3' : Int32) (v4' : Int32) (sg' : Sg), StC MX3_settle s0 sg' → 1 ≤ v1'.toInt → v1'.toInt ≤ 4095 → 0 ≤ v2'.toInt → v2'.toInt ≤ 11 → 0 ≤ v3'.toInt → v3'.toInt ≤ 4095 → 0 ≤ v4'.toInt → v4'.toInt ≤ 12 → ((sg' 3 1).toInt = (sg' 1 1).toInt) → (∀ (v1'' : Int32) (v2'' : Int32) (sg'' : Sg), StC MX3_settle s0 sg'' → 0 ≤ v1''.toInt → v1''.toInt ≤ 4095 → 0 ≤ v2''.toInt → v2''.toInt ≤ 12 → ((sg'' 3 1).toInt = (sg'' 1 1).toInt) → v2'.toInt < v2''.toInt → Ok (PVXC MX3_settle s0 (fun r => (r 3 1).toInt = (r 1 1).toInt)) (r52 (v1'', v2'', sg''))) → v4.toInt < v4'.toInt → Ok (PVXC MX3_settle s0 (fun r => (r 3 1).toInt = (r 1 1).toInt)) (r76 (v1', v2', v3', v4', sg'))) : Ok (PVXC MX3_settle s0 (fun r => (r 3 1).toInt = (r 1 1).toInt)) (fX3_settle_108 r52 r76 v1 v2 v3 v4 sg) := by
  unfold fX3_settle_108
  refine ok_lt (fun x1 ex1 => ?_)
  replace ex1 : x1.toInt = v4.toInt + 1 := by rw [ex1]; exact add_c 1 (by decide) (by omega) (by omega)
  exact hr76 v1 v2 v3 x1 sg hS (by omega) (by omega) (by omega) (by omega) (by omega) (by omega) (by omega) (by omega) (by omega) hr52 (by omega)
set_option maxHeartbeats 4000000 in
theorem sX3_settle_76 {s0 : Sg} {r52 : (Int32 × Int32 × Sg) → Option (Sg)} {r76 : (Int32 × Int32 × Int32 × Int32 × Sg) → Option (Sg)} {v1 : Int32} {v2 : Int32} {v3 : Int32} {v4 : Int32} {sg : Sg} (hS : StC MX3_settle s0 sg) (v1l : 1 ≤ v1.toInt) (v1h : v1.toInt ≤ 4095) (v2l : 0 ≤ v2.toInt) (v2h : v2.toInt ≤ 11) (v3l : 0 ≤ v3.toInt) (v3h : v3.toInt ≤ 4095) (v4l : 0 ≤ v4.toInt) (v4h : v4.toInt ≤ 12) (xq : (sg 3 1).toInt = (sg 1 1).toInt) (hr52 : ∀ (v1' : Int32) (v2' : Int32) (sg' : Sg), StC MX3_settle s0 sg' → 0 ≤ v1'.toInt → v1'.toInt ≤ 4095 → 0 ≤ v2'.toInt → v2'.toInt ≤ 12 → ((sg' 3 1).toInt = (sg' 1 1).toInt) → v2.toInt < v2'.toInt → Ok (PVXC MX3_settle s0 (fun r => (r 3 1).toInt = (r 1 1).toInt)) (r52 (v1', v2', sg'))) (hr76 : ∀ (v1' : Int32) (v2' : Int32) (v3' : Int32) (v4' : Int32) (sg' : Sg), StC MX3_settle s0 sg' → 1 ≤ v1'.toInt → v1'.toInt ≤ 4095 → 0 ≤ v2'.toInt → v2'.toInt ≤ 11 → 0 ≤ v3'.toInt → v3'.toInt ≤ 4095 → 0 ≤ v4'.toInt → v4'.toInt ≤ 12 → ((sg' 3 1).toInt = (sg' 1 1).toInt) → (∀ (v1'' : Int32) (v2'' : Int32) (sg'' : Sg), StC MX3_settle s0 sg'' → 0 ≤ v1''.toInt → v1''.toInt ≤ 4095 → 0 ≤ v2''.toInt → v2''.toInt ≤ 12 → ((sg'' 3 1).toInt = (sg'' 1 1).toInt) → v2'.toInt < v2''.toInt → Ok (PVXC MX3_settle s0 (fun r => (r 3 1).toInt = (r 1 1).toInt)) (r52 (v1'', v2'', sg''))) → v4.toInt < v4'.toInt → Ok (PVXC MX3_settle s0 (fun r => (r 3 1).toInt = (r 1 1).toInt)) (r76 (v1', v2', v3', v4', sg'))) : Ok (PVXC MX3_settle s0 (fun r => (r 3 1).toInt = (r 1 1).toInt)) (fX3_settle_76 r52 r76 v1 v2 v3 v4 sg) := by
  unfold fX3_settle_76
  refine ok_ite (fun c1 => ?_) (fun c1 => ?_)
  · have f2 := rdC3_2 hS.1.1
    replace c1 := i_le.mp c1
    have f3 := and_l (a := v1) (b := (v3 ^^^ (-1 : Int32))) (by omega)
    refine ok_lt (fun x2 ex2 => ?_)
    replace ex2 := congrArg Int32.toInt ex2
    have k4 : (1 : Int32).toInt = 1 := by decide
    refine ok_lt (fun x3 ex3 => ?_)
    replace ex3 := congrArg Int32.toInt ex3
    refine ok_lt (fun sg4 esg4 => ?_)
    have hS5 := upC7_2 hS (by decide) esg4
    have e6 : (sg4 1 1).toInt = (sg 1 1).toInt := by rw [esg4]; rfl
    have e7 : (sg4 3 1).toInt = (sg 3 1).toInt := by rw [esg4]; rfl
    have e8 : (sg4 3 2).toInt = (sg 3 2).toInt := by rw [esg4]; rfl
    have e9 : (sg4 7 2).toInt = x3.toInt := by rw [esg4]; rfl
    refine ok_lt (fun x5 ex5 => ?_)
    replace ex5 : x5.toInt = v2.toInt + 1 := by rw [ex5]; exact add_c 1 (by decide) (by omega) (by omega)
    exact hr52 x2 x5 sg4 hS5 (by omega) (by omega) (by omega) (by omega) (by omega) (by omega)
  · have f10 := rdC3_2 hS.1.1
    replace c1 := i_nle.mp c1
    refine bnd2_pxC (sX11_isIn (v0 := v3) (v1 := v4) hS.1 (by omega) (by omega) (by omega) (by omega)) (fun y6 qy6 zy6 xy6 => ?_)
    replace xy6 : y6.toInt = 0 ∨ 0 < (v3 >>> (v4 &&& 31)).toInt := xy6
    refine ok_ite (fun c11 => ?_) (fun c11 => ?_)
    · have k12 : (0 : Int32).toInt = 0 := by decide
      replace c11 := i_eq.mp c11
      exact sX3_settle_108 hS (by omega) (by omega) (by omega) (by omega) (by omega) (by omega) (by omega) (by omega) (by omega) hr52 hr76
    · have k13 : (0 : Int32).toInt = 0 := by decide
      replace c11 := i_ne.mp c11
      refine ok_lt (fun x11 ex11 => ?_)
      replace ex11 := congrArg Int32.toInt ex11
      refine ok_gin (by omega) (by omega) ?_
      refine ok_lt (fun sg13 esg13 => ?_)
      have hS14 := upC35 hS (by decide) esg13
      have e15 : (sg13 1 1).toInt = (sg 1 1).toInt := by rw [esg13]; rfl
      have e16 : (sg13 3 1).toInt = (sg 3 1).toInt := by rw [esg13]; rfl
      have e17 : (sg13 3 2).toInt = (sg 3 2).toInt := by rw [esg13]; rfl
      have e18 : (sg13 7 2).toInt = (sg 7 2).toInt := by rw [esg13]; rfl
      exact sX3_settle_108 hS14 (by omega) (by omega) (by omega) (by omega) (by omega) (by omega) (by omega) (by omega) (by omega) hr52 hr76
set_option maxHeartbeats 4000000 in
theorem sLX3_settle_76 {s0 : Sg} {r52 : (Int32 × Int32 × Sg) → Option (Sg)} {v1 : Int32} {v2 : Int32} {v3 : Int32} {v4 : Int32} {sg : Sg} (hS : StC MX3_settle s0 sg) (v1l : 1 ≤ v1.toInt) (v1h : v1.toInt ≤ 4095) (v2l : 0 ≤ v2.toInt) (v2h : v2.toInt ≤ 11) (v3l : 0 ≤ v3.toInt) (v3h : v3.toInt ≤ 4095) (v4l : 0 ≤ v4.toInt) (v4h : v4.toInt ≤ 12) (xq : ((sg 3 1).toInt = (sg 1 1).toInt)) (hr52 : ∀ (v1' : Int32) (v2' : Int32) (sg' : Sg), StC MX3_settle s0 sg' → 0 ≤ v1'.toInt → v1'.toInt ≤ 4095 → 0 ≤ v2'.toInt → v2'.toInt ≤ 12 → ((sg' 3 1).toInt = (sg' 1 1).toInt) → v2.toInt < v2'.toInt → Ok (PVXC MX3_settle s0 (fun r => (r 3 1).toInt = (r 1 1).toInt)) (r52 (v1', v2', sg'))) : Ok (PVXC MX3_settle s0 (fun r => (r 3 1).toInt = (r 1 1).toInt)) (LX3_settle_76 r52 (v1, v2, v3, v4, sg)) := by
  unfold LX3_settle_76
  refine ok_loop (I := fun (z : Int32 × Int32 × Int32 × Int32 × Sg) => StC MX3_settle s0 z.2.2.2.2 ∧ 1 ≤ z.1.toInt ∧ z.1.toInt ≤ 4095 ∧ 0 ≤ z.2.1.toInt ∧ z.2.1.toInt ≤ 11 ∧ 0 ≤ z.2.2.1.toInt ∧ z.2.2.1.toInt ≤ 4095 ∧ 0 ≤ z.2.2.2.1.toInt ∧ z.2.2.2.1.toInt ≤ 12 ∧ ((z.2.2.2.2 3 1).toInt = (z.2.2.2.2 1 1).toInt) ∧ (∀ (v1' : Int32) (v2' : Int32) (sg' : Sg), StC MX3_settle s0 sg' → 0 ≤ v1'.toInt → v1'.toInt ≤ 4095 → 0 ≤ v2'.toInt → v2'.toInt ≤ 12 → ((sg' 3 1).toInt = (sg' 1 1).toInt) → z.2.1.toInt < v2'.toInt → Ok (PVXC MX3_settle s0 (fun r => (r 3 1).toInt = (r 1 1).toInt)) (r52 (v1', v2', sg')))) (m := fun (z : Int32 × Int32 × Int32 × Int32 × Sg) => (13 - z.2.2.2.1.toInt).toNat) _ ?_ ?_ _ ?_
  · intro z hz
    obtain ⟨h0, h1, h2, h3, h4, h5, h6, h7, h8, h9, h10⟩ := hz
    show (13 - z.2.2.2.1.toInt).toNat < 10000
    omega
  · intro rec z hz hrec
    obtain ⟨v1, v2, v3, v4, sg⟩ := z
    replace hz : StC MX3_settle s0 sg ∧ 1 ≤ v1.toInt ∧ v1.toInt ≤ 4095 ∧ 0 ≤ v2.toInt ∧ v2.toInt ≤ 11 ∧ 0 ≤ v3.toInt ∧ v3.toInt ≤ 4095 ∧ 0 ≤ v4.toInt ∧ v4.toInt ≤ 12 ∧ ((sg 3 1).toInt = (sg 1 1).toInt) ∧ (∀ (v1' : Int32) (v2' : Int32) (sg' : Sg), StC MX3_settle s0 sg' → 0 ≤ v1'.toInt → v1'.toInt ≤ 4095 → 0 ≤ v2'.toInt → v2'.toInt ≤ 12 → ((sg' 3 1).toInt = (sg' 1 1).toInt) → v2.toInt < v2'.toInt → Ok (PVXC MX3_settle s0 (fun r => (r 3 1).toInt = (r 1 1).toInt)) (r52 (v1', v2', sg'))) := hz
    obtain ⟨h0, h1, h2, h3, h4, h5, h6, h7, h8, h9, h10⟩ := hz
    show Ok (PVXC MX3_settle s0 (fun r => (r 3 1).toInt = (r 1 1).toInt)) (fX3_settle_76 r52 rec v1 v2 v3 v4 sg)
    exact sX3_settle_76 h0 h1 h2 h3 h4 h5 h6 h7 h8 h9 h10 (fun v1' v2' v3' v4' sg' g0 g1 g2 g3 g4 g5 g6 g7 g8 g9 g10 g11 => hrec (v1', v2', v3', v4', sg') ⟨g0, g1, g2, g3, g4, g5, g6, g7, g8, g9, g10⟩ (show (13 - v4'.toInt).toNat < (13 - v4.toInt).toNat by omega))
  · exact ⟨hS, v1l, v1h, v2l, v2h, v3l, v3h, v4l, v4h, xq, hr52⟩
set_option maxHeartbeats 4000000 in
theorem sX3_settle_52 {s0 : Sg} {r52 : (Int32 × Int32 × Sg) → Option (Sg)} {v1 : Int32} {v2 : Int32} {sg : Sg} (hS : StC MX3_settle s0 sg) (v1l : 0 ≤ v1.toInt) (v1h : v1.toInt ≤ 4095) (v2l : 0 ≤ v2.toInt) (v2h : v2.toInt ≤ 12) (xq : (sg 3 1).toInt = (sg 1 1).toInt) (hr52 : ∀ (v1' : Int32) (v2' : Int32) (sg' : Sg), StC MX3_settle s0 sg' → 0 ≤ v1'.toInt → v1'.toInt ≤ 4095 → 0 ≤ v2'.toInt → v2'.toInt ≤ 12 → ((sg' 3 1).toInt = (sg' 1 1).toInt) → v2.toInt < v2'.toInt → Ok (PVXC MX3_settle s0 (fun r => (r 3 1).toInt = (r 1 1).toInt)) (r52 (v1', v2', sg'))) : Ok (PVXC MX3_settle s0 (fun r => (r 3 1).toInt = (r 1 1).toInt)) (fX3_settle_52 r52 v1 v2 sg) := by
  unfold fX3_settle_52
  refine ok_ite (fun c1 => ?_) (fun c1 => ?_)
  · have f2 := rdC3_2 hS.1.1
    replace c1 := i_le.mp c1
    exact ok_some (mkPVXC hS (show (sg 3 1).toInt = (sg 1 1).toInt by omega))
  · have f3 := rdC3_2 hS.1.1
    replace c1 := i_nle.mp c1
    refine ok_ite (fun c4 => ?_) (fun c4 => ?_)
    · have k5 : (0 : Int32).toInt = 0 := by decide
      replace c4 := i_eq.mp c4
      exact ok_some (mkPVXC hS (show (sg 3 1).toInt = (sg 1 1).toInt by omega))
    · have k6 : (0 : Int32).toInt = 0 := by decide
      replace c4 := i_ne.mp c4
      refine bnd2_puC (sX3_nextGroup (v1 := v1) hS.1 (by omega) (by omega)) (fun y3 qy3 zy3 => ?_)
      exact sLX3_settle_76 hS (by omega) (by omega) (by omega) (by omega) (by omega) (by omega) (by omega) (by omega) (by omega) hr52
set_option maxHeartbeats 4000000 in
theorem sLX3_settle_52 {s0 : Sg} {v1 : Int32} {v2 : Int32} {sg : Sg} (hS : StC MX3_settle s0 sg) (v1l : 0 ≤ v1.toInt) (v1h : v1.toInt ≤ 4095) (v2l : 0 ≤ v2.toInt) (v2h : v2.toInt ≤ 12) (xq : ((sg 3 1).toInt = (sg 1 1).toInt)) : Ok (PVXC MX3_settle s0 (fun r => (r 3 1).toInt = (r 1 1).toInt)) (LX3_settle_52 (v1, v2, sg)) := by
  unfold LX3_settle_52
  refine ok_loop (I := fun (z : Int32 × Int32 × Sg) => StC MX3_settle s0 z.2.2 ∧ 0 ≤ z.1.toInt ∧ z.1.toInt ≤ 4095 ∧ 0 ≤ z.2.1.toInt ∧ z.2.1.toInt ≤ 12 ∧ ((z.2.2 3 1).toInt = (z.2.2 1 1).toInt)) (m := fun (z : Int32 × Int32 × Sg) => (13 - z.2.1.toInt).toNat) _ ?_ ?_ _ ?_
  · intro z hz
    obtain ⟨h0, h1, h2, h3, h4, h5⟩ := hz
    show (13 - z.2.1.toInt).toNat < 10000
    omega
  · intro rec z hz hrec
    obtain ⟨v1, v2, sg⟩ := z
    replace hz : StC MX3_settle s0 sg ∧ 0 ≤ v1.toInt ∧ v1.toInt ≤ 4095 ∧ 0 ≤ v2.toInt ∧ v2.toInt ≤ 12 ∧ ((sg 3 1).toInt = (sg 1 1).toInt) := hz
    obtain ⟨h0, h1, h2, h3, h4, h5⟩ := hz
    show Ok (PVXC MX3_settle s0 (fun r => (r 3 1).toInt = (r 1 1).toInt)) (fX3_settle_52 rec v1 v2 sg)
    exact sX3_settle_52 h0 h1 h2 h3 h4 h5 (fun v1' v2' sg' g0 g1 g2 g3 g4 g5 g6 => hrec (v1', v2', sg') ⟨g0, g1, g2, g3, g4, g5⟩ (show (13 - v2'.toInt).toNat < (13 - v2.toInt).toNat by omega))
  · exact ⟨hS, v1l, v1h, v2l, v2h, xq⟩
set_option maxHeartbeats 4000000 in
theorem sX3_settle {sg : Sg} (hI : IC sg) : Ok (PVXC MX3_settle sg (fun r => (r 3 1).toInt = (r 1 1).toInt)) (fX3_settle sg) := by
  have hS : StC MX3_settle sg sg := StC.rf hI
  unfold fX3_settle
  refine bnd1_pvxC (sX8_gather  hS.1) (fun sg1 hsg1 xsg1 => ?_)
  replace xsg1 : (sg1 3 1).toInt = (sg1 1 1).toInt := xsg1
  have hS1 := hS.tr hsg1 (by decide)
  refine ok_ite (fun c2 => ?_) (fun c2 => ?_)
  · replace c2 := i_eq.mp c2
    exact ok_some (mkPVXC hS1 (show (sg1 3 1).toInt = (sg1 1 1).toInt by omega))
  · replace c2 := i_ne.mp c2
    refine ok_lt (fun x4 ex4 => ?_)
    replace ex4 := congrArg Int32.toInt ex4
    refine ok_lt (fun sg5 esg5 => ?_)
    have hS3 := upC7_1 hS1 (by decide) esg5
    have e4 : (sg5 1 1).toInt = (sg1 1 1).toInt := by rw [esg5]; rfl
    have e5 : (sg5 3 1).toInt = (sg1 3 1).toInt := by rw [esg5]; rfl
    have e6 : (sg5 7 1).toInt = x4.toInt := by rw [esg5]; rfl
    refine bnd1_pvC (sX3_followPecks  hS3.1) (fun sg6 hsg6 => ?_)
    have e7 : (sg6 1 1).toInt = (sg5 1 1).toInt := congrArg Int32.toInt (congrFun (hsg6.fr 1 (by decide)) _)
    have e8 : (sg6 3 1).toInt = (sg5 3 1).toInt := congrArg Int32.toInt (congrFun (hsg6.fr 3 (by decide)) _)
    have e9 : (sg6 7 1).toInt = (sg5 7 1).toInt := congrArg Int32.toInt (congrFun (hsg6.fr 7 (by decide)) _)
    have hS10 := hS3.tr hsg6 (by decide)
    have k11 : (0 : Int32).toInt = 0 := by decide
    refine ok_lt (fun sg8 esg8 => ?_)
    have hS12 := upC7_2 hS10 (by decide) esg8
    have e13 : (sg8 1 1).toInt = (sg6 1 1).toInt := by rw [esg8]; rfl
    have e14 : (sg8 3 1).toInt = (sg6 3 1).toInt := by rw [esg8]; rfl
    have e15 : (sg8 7 1).toInt = (sg6 7 1).toInt := by rw [esg8]; rfl
    have e16 : (sg8 7 2).toInt = (0 : Int32).toInt := by rw [esg8]; rfl
    refine bnd2_pxC (sX8_all  hS12.1.1) (fun y9 qy9 zy9 xy9 => ?_)
    replace xy9 : y9.toInt = pw sg8 - 1 := xy9
    exact sLX3_settle_52 hS12 (by omega) (by omega) (by omega) (by omega) (by omega)
set_option maxHeartbeats 4000000 in
theorem sX11_groups {sg : Sg} (hI : IC sg) : Ok (PLC MX11_groups sg) (fX11_groups sg) := by
  have hS : StC MX11_groups sg sg := StC.rf hI
  unfold fX11_groups
  refine bnd1_pvxC (sX3_settle  hS.1) (fun sg1 hsg1 xsg1 => ?_)
  replace xsg1 : (sg1 3 1).toInt = (sg1 1 1).toInt := xsg1
  have hS1 := hS.tr hsg1 (by decide)
  exact ok_some (mkPLC hS1)
set_option maxHeartbeats 4000000 in
theorem sX11_groupOf {v1 : Int32} {sg : Sg} (hI : IC sg) : Ok (PLC MX11_groupOf sg) (fX11_groupOf v1 sg) := by
  have hS : StC MX11_groupOf sg sg := StC.rf hI
  unfold fX11_groupOf
  refine bnd2_pxC (sX2_has (v1 := v1) hS.1.1) (fun y1 qy1 zy1 xy1 => ?_)
  replace xy1 : y1.toInt = 0 ∨ (0 ≤ v1.toInt ∧ v1.toInt ≤ 11) := xy1
  refine ok_ite (fun c1 => ?_) (fun c1 => ?_)
  · have k2 : (0 : Int32).toInt = 0 := by decide
    replace c1 := i_eq.mp c1
    exact ok_some (mkPLC hS)
  · have k3 : (0 : Int32).toInt = 0 := by decide
    replace c1 := i_ne.mp c1
    refine bnd2_pxC (isc_X2 (v1 := v1) hS.1.1) (fun y5 qy5 zy5 xy5 => ?_)
    replace xy5 : (y5.toInt = 0 ∧ (v1.toInt < 0 ∨ ¬ cnt sg v1.toNatClampNeg)) ∨ (y5.toInt = 1 ∧ cnt sg v1.toNatClampNeg ∧ 0 ≤ v1.toInt ∧ v1.toInt ≤ 11) := xy5
    refine ok_ite (fun c4 => ?_) (fun c4 => ?_)
    · replace c4 := i_eq.mp c4
      exact ok_some (mkPLC hS)
    · replace c4 := i_ne.mp c4
      refine bnd1_pvxC (sX3_settle  hS.1) (fun sg9 hsg9 xsg9 => ?_)
      replace xsg9 : (sg9 3 1).toInt = (sg9 1 1).toInt := xsg9
      have hS5 := hS.tr hsg9 (by decide)
      have n1 : cnt sg v1.toNatClampNeg ∧ 0 ≤ v1.toInt ∧ v1.toInt ≤ 11 := by
        rcases xy5 with z | z
        · exact absurd z.1 (by omega)
        · exact z.2
      have nq := hS5.1.2.2.2.2.1 (by omega)
      have m1 := nq v1.toNatClampNeg ((cnt_cg (congrFun (hS5.fr 1 (by decide)) _) (congrFun (hS5.fr 11 (by decide)) _) (congrFun (hS5.fr 13 (by decide)) _)).mpr n1.1)
      obtain ⟨-, n1a, n1b⟩ := n1
      refine ok_gin (by omega) (by omega) ?_
      have f6 := rdC18 hS5.1.1 (j := v1.toNatClampNeg)
      refine ok_lt (fun x12 ex12 => ?_)
      replace ex12 := congrArg Int32.toInt ex12
      refine ok_gin (by omega) (by omega) ?_
      exact ok_some (mkPLC hS5)
set_option maxHeartbeats 4000000 in
theorem sX9_loosen_123 {s0 : Sg} {r37 : (Int32 × Int32 × Sg) → Option (Sg)} {v1 : Int32} {v2 : Int32} {v3 : Int32} {sg : Sg} (hS : StC MX9_loosen s0 sg) (v1l : 0 ≤ v1.toInt) (v1h : v1.toInt ≤ 4095) (v2l : 0 ≤ v2.toInt) (v2h : v2.toInt ≤ 4094) (v3h : v3.toInt ≤ 1000000000) (xv : v1.toInt = pw sg - 1) (xc : pw sg ≤ (sg 99 65).toInt) (xa : v2.toInt < pw sg) (hr37 : ∀ (v1' : Int32) (v2' : Int32) (sg' : Sg), StC MX9_loosen s0 sg' → 0 ≤ v1'.toInt → v1'.toInt ≤ 4095 → (-1) ≤ v2'.toInt → v2'.toInt ≤ 4094 → (v1'.toInt = pw sg' - 1) → (pw sg' ≤ (sg' 99 65).toInt) → (v2'.toInt < pw sg') → v2'.toInt < v2.toInt → Ok (PVC MX9_loosen s0) (r37 (v1', v2', sg'))) : Ok (PVC MX9_loosen s0) (fX9_loosen_123 r37 v1 v2 v3 sg) := by
  have w1 := lo32 v3
  unfold fX9_loosen_123
  have f2 := rdC99_65 hS.1.1
  refine ok_ginL (by omega) (by omega) ?_
  refine ok_lt (fun sg2 esg2 => ?_)
  have hS3 := upC65 hS (by decide) esg2
  have e4 : pw sg2 = pw sg := pw_cg (by rw [esg2]; rfl)
  have e5 : (sg2 99 65).toInt = (sg 99 65).toInt := by rw [esg2]; rfl
  refine ok_lt (fun x3 ex3 => ?_)
  replace ex3 : x3.toInt = v2.toInt + (-1) := by rw [ex3]; exact add_c (-1) (by decide) (by omega) (by omega)
  exact hr37 v1 x3 sg2 hS3 (by omega) (by omega) (by omega) (by omega) (by omega) (by omega) (by omega) (by omega)
set_option maxHeartbeats 4000000 in
theorem sX9_loosen_111 {s0 : Sg} {r37 : (Int32 × Int32 × Sg) → Option (Sg)} {r54 : (Int32 × Int32 × Int32 × Int32 × Int32 × Sg) → Option (Sg)} {v1 : Int32} {v2 : Int32} {v3 : Int32} {v4 : Int32} {v5 : Int32} {sg : Sg} (hS : StC MX9_loosen s0 sg) (v1l : 0 ≤ v1.toInt) (v1h : v1.toInt ≤ 4095) (v2l : 0 ≤ v2.toInt) (v2h : v2.toInt ≤ 4094) (v3h : v3.toInt ≤ 1000000000) (v4l : 0 ≤ v4.toInt) (v4h : v4.toInt ≤ 11) (v5l : 1 ≤ v5.toInt) (v5h : v5.toInt ≤ 4095) (xv : v1.toInt = pw sg - 1) (xc : pw sg ≤ (sg 99 65).toInt) (xl : lft v4 v5 sg) (xa : v2.toInt < pw sg) (hr37 : ∀ (v1' : Int32) (v2' : Int32) (sg' : Sg), StC MX9_loosen s0 sg' → 0 ≤ v1'.toInt → v1'.toInt ≤ 4095 → (-1) ≤ v2'.toInt → v2'.toInt ≤ 4094 → (v1'.toInt = pw sg' - 1) → (pw sg' ≤ (sg' 99 65).toInt) → (v2'.toInt < pw sg') → v2'.toInt < v2.toInt → Ok (PVC MX9_loosen s0) (r37 (v1', v2', sg'))) (hr54 : ∀ (v1' : Int32) (v2' : Int32) (v3' : Int32) (v4' : Int32) (v5' : Int32) (sg' : Sg), StC MX9_loosen s0 sg' → 0 ≤ v1'.toInt → v1'.toInt ≤ 4095 → 0 ≤ v2'.toInt → v2'.toInt ≤ 4094 → v3'.toInt ≤ 1000000000 → 0 ≤ v4'.toInt → v4'.toInt ≤ 12 → 0 ≤ v5'.toInt → v5'.toInt ≤ 4095 → (v1'.toInt = pw sg' - 1) → (pw sg' ≤ (sg' 99 65).toInt) → (lft v4' v5' sg') → (v2'.toInt < pw sg') → (∀ (v1'' : Int32) (v2'' : Int32) (sg'' : Sg), StC MX9_loosen s0 sg'' → 0 ≤ v1''.toInt → v1''.toInt ≤ 4095 → (-1) ≤ v2''.toInt → v2''.toInt ≤ 4094 → (v1''.toInt = pw sg'' - 1) → (pw sg'' ≤ (sg'' 99 65).toInt) → (v2''.toInt < pw sg'') → v2''.toInt < v2'.toInt → Ok (PVC MX9_loosen s0) (r37 (v1'', v2'', sg''))) → v4.toInt < v4'.toInt → Ok (PVC MX9_loosen s0) (r54 (v1', v2', v3', v4', v5', sg'))) : Ok (PVC MX9_loosen s0) (fX9_loosen_111 r37 r54 v1 v2 v3 v4 v5 sg) := by
  have w1 := lo32 v3
  unfold fX9_loosen_111
  refine ok_lt (fun x1 ex1 => ?_)
  replace ex1 : x1.toInt = v4.toInt + 1 := by rw [ex1]; exact add_c 1 (by decide) (by omega) (by omega)
  have f2 := shr_i (a := v5) (v := ((1 : Int32) &&& 31)) (by omega)
  refine ok_lt (fun x2 ex2 => ?_)
  replace ex2 := congrArg Int32.toInt ex2
  exact hr54 v1 v2 v3 x1 x2 sg hS (by omega) (by omega) (by omega) (by omega) (by omega) (by omega) (by omega) (by omega) (by omega) (by omega) (by omega) (lft_next xl (by omega) (by omega) (by omega) (by omega) ex2) (by omega) hr37 (by omega)
set_option maxHeartbeats 4000000 in
theorem sX9_loosen_110 {s0 : Sg} {r37 : (Int32 × Int32 × Sg) → Option (Sg)} {r54 : (Int32 × Int32 × Int32 × Int32 × Int32 × Sg) → Option (Sg)} {v1 : Int32} {v2 : Int32} {v4 : Int32} {v5 : Int32} {w0 : Int32} {sg : Sg} (hS : StC MX9_loosen s0 sg) (v1l : 0 ≤ v1.toInt) (v1h : v1.toInt ≤ 4095) (v2l : 0 ≤ v2.toInt) (v2h : v2.toInt ≤ 4094) (v4l : 0 ≤ v4.toInt) (v4h : v4.toInt ≤ 11) (v5l : 1 ≤ v5.toInt) (v5h : v5.toInt ≤ 4095) (w0h : w0.toInt ≤ 1000000000) (xv : v1.toInt = pw sg - 1) (xc : pw sg ≤ (sg 99 65).toInt) (xl : lft v4 v5 sg) (xa : v2.toInt < pw sg) (hr37 : ∀ (v1' : Int32) (v2' : Int32) (sg' : Sg), StC MX9_loosen s0 sg' → 0 ≤ v1'.toInt → v1'.toInt ≤ 4095 → (-1) ≤ v2'.toInt → v2'.toInt ≤ 4094 → (v1'.toInt = pw sg' - 1) → (pw sg' ≤ (sg' 99 65).toInt) → (v2'.toInt < pw sg') → v2'.toInt < v2.toInt → Ok (PVC MX9_loosen s0) (r37 (v1', v2', sg'))) (hr54 : ∀ (v1' : Int32) (v2' : Int32) (v3' : Int32) (v4' : Int32) (v5' : Int32) (sg' : Sg), StC MX9_loosen s0 sg' → 0 ≤ v1'.toInt → v1'.toInt ≤ 4095 → 0 ≤ v2'.toInt → v2'.toInt ≤ 4094 → v3'.toInt ≤ 1000000000 → 0 ≤ v4'.toInt → v4'.toInt ≤ 12 → 0 ≤ v5'.toInt → v5'.toInt ≤ 4095 → (v1'.toInt = pw sg' - 1) → (pw sg' ≤ (sg' 99 65).toInt) → (lft v4' v5' sg') → (v2'.toInt < pw sg') → (∀ (v1'' : Int32) (v2'' : Int32) (sg'' : Sg), StC MX9_loosen s0 sg'' → 0 ≤ v1''.toInt → v1''.toInt ≤ 4095 → (-1) ≤ v2''.toInt → v2''.toInt ≤ 4094 → (v1''.toInt = pw sg'' - 1) → (pw sg'' ≤ (sg'' 99 65).toInt) → (v2''.toInt < pw sg'') → v2''.toInt < v2'.toInt → Ok (PVC MX9_loosen s0) (r37 (v1'', v2'', sg''))) → v4.toInt < v4'.toInt → Ok (PVC MX9_loosen s0) (r54 (v1', v2', v3', v4', v5', sg'))) : Ok (PVC MX9_loosen s0) (fX9_loosen_110 r37 r54 v1 v2 v4 v5 w0 sg) := by
  have w1 := lo32 w0
  unfold fX9_loosen_110
  exact sX9_loosen_111 hS (by omega) (by omega) (by omega) (by omega) (by omega) (by omega) (by omega) (by omega) (by omega) (by omega) (by omega) xl (by omega) hr37 hr54
set_option maxHeartbeats 4000000 in
theorem sX9_loosen_54 {s0 : Sg} {r37 : (Int32 × Int32 × Sg) → Option (Sg)} {r54 : (Int32 × Int32 × Int32 × Int32 × Int32 × Sg) → Option (Sg)} {v1 : Int32} {v2 : Int32} {v3 : Int32} {v4 : Int32} {v5 : Int32} {sg : Sg} (hS : StC MX9_loosen s0 sg) (v1l : 0 ≤ v1.toInt) (v1h : v1.toInt ≤ 4095) (v2l : 0 ≤ v2.toInt) (v2h : v2.toInt ≤ 4094) (v3h : v3.toInt ≤ 1000000000) (v4l : 0 ≤ v4.toInt) (v4h : v4.toInt ≤ 12) (v5l : 0 ≤ v5.toInt) (v5h : v5.toInt ≤ 4095) (xv : v1.toInt = pw sg - 1) (xc : pw sg ≤ (sg 99 65).toInt) (xl : lft v4 v5 sg) (xa : v2.toInt < pw sg) (hr37 : ∀ (v1' : Int32) (v2' : Int32) (sg' : Sg), StC MX9_loosen s0 sg' → 0 ≤ v1'.toInt → v1'.toInt ≤ 4095 → (-1) ≤ v2'.toInt → v2'.toInt ≤ 4094 → (v1'.toInt = pw sg' - 1) → (pw sg' ≤ (sg' 99 65).toInt) → (v2'.toInt < pw sg') → v2'.toInt < v2.toInt → Ok (PVC MX9_loosen s0) (r37 (v1', v2', sg'))) (hr54 : ∀ (v1' : Int32) (v2' : Int32) (v3' : Int32) (v4' : Int32) (v5' : Int32) (sg' : Sg), StC MX9_loosen s0 sg' → 0 ≤ v1'.toInt → v1'.toInt ≤ 4095 → 0 ≤ v2'.toInt → v2'.toInt ≤ 4094 → v3'.toInt ≤ 1000000000 → 0 ≤ v4'.toInt → v4'.toInt ≤ 12 → 0 ≤ v5'.toInt → v5'.toInt ≤ 4095 → (v1'.toInt = pw sg' - 1) → (pw sg' ≤ (sg' 99 65).toInt) → (lft v4' v5' sg') → (v2'.toInt < pw sg') → (∀ (v1'' : Int32) (v2'' : Int32) (sg'' : Sg), StC MX9_loosen s0 sg'' → 0 ≤ v1''.toInt → v1''.toInt ≤ 4095 → (-1) ≤ v2''.toInt → v2''.toInt ≤ 4094 → (v1''.toInt = pw sg'' - 1) → (pw sg'' ≤ (sg'' 99 65).toInt) → (v2''.toInt < pw sg'') → v2''.toInt < v2'.toInt → Ok (PVC MX9_loosen s0) (r37 (v1'', v2'', sg''))) → v4.toInt < v4'.toInt → Ok (PVC MX9_loosen s0) (r54 (v1', v2', v3', v4', v5', sg'))) : Ok (PVC MX9_loosen s0) (fX9_loosen_54 r37 r54 v1 v2 v3 v4 v5 sg) := by
  have w1 := lo32 v3
  unfold fX9_loosen_54
  refine ok_ite (fun c2 => ?_) (fun c2 => ?_)
  · have k3 : (12 : Int32).toInt = 12 := by decide
    replace c2 := i_le.mp c2
    exact sX9_loosen_123 hS (by omega) (by omega) (by omega) (by omega) (by omega) (by omega) (by omega) (by omega) hr37
  · have k4 : (12 : Int32).toInt = 12 := by decide
    replace c2 := i_nle.mp c2
    refine ok_ite (fun c5 => ?_) (fun c5 => ?_)
    · have k6 : (0 : Int32).toInt = 0 := by decide
      replace c5 := i_eq.mp c5
      exact sX9_loosen_123 hS (by omega) (by omega) (by omega) (by omega) (by omega) (by omega) (by omega) (by omega) hr37
    · have k7 : (0 : Int32).toInt = 0 := by decide
      replace c5 := i_ne.mp c5
      refine ok_ite (fun c8 => ?_) (fun c8 => ?_)
      · have k9 : (1 : Int32).toInt = 1 := by decide
        have f10 := and_l (a := v5) (b := (1 : Int32)) (by omega)
        have f11 := and_r (a := v5) (b := (1 : Int32)) (by omega)
        replace c8 := i_eq.mp c8
        have f12 := shl_i (v := v4) 11 2048 (by decide) (by decide) (by omega) (by omega)
        have f13 := rdC3_2 hS.1.1
        have hz := lft_lt xl (by omega) (by omega) (by omega)
        have f14 := or_pw (sg := sg) (a := v2) (v := v4) (by omega) (by omega) (by omega) (by omega) (by omega)
        have f15 := or_i (a := v2) (b := ((1 : Int32) <<< (v4 &&& 31))) 12 4096 (by decide) (by decide) (by omega) (by omega) (by omega) (by omega)
        refine ok_lt (fun x4 ex4 => ?_)
        replace ex4 := congrArg Int32.toInt ex4
        have f16 := rdC99_65 hS.1.1
        refine ok_ginL (by omega) (by omega) ?_
        refine bnd2_puC (sX4_costBelow (v1 := v2) (v2 := v4) hS.1 (by omega) (by omega) (by omega) (by omega)) (fun y6 qy6 zy6 => ?_)
        refine ok_lt (fun x9 ex9 => ?_)
        replace ex9 := congrArg Int32.toInt ex9
        refine ok_ite (fun c17 => ?_) (fun c17 => ?_)
        · replace c17 := i_le.mp c17
          exact sX9_loosen_110 hS (by omega) (by omega) (by omega) (by omega) (by omega) (by omega) (by omega) (by omega) (by omega) (by omega) (by omega) xl (by omega) hr37 hr54
        · replace c17 := i_nle.mp c17
          exact sX9_loosen_110 hS (by omega) (by omega) (by omega) (by omega) (by omega) (by omega) (by omega) (by omega) (by omega) (by omega) (by omega) xl (by omega) hr37 hr54
      · have k18 : (1 : Int32).toInt = 1 := by decide
        have f19 := and_l (a := v5) (b := (1 : Int32)) (by omega)
        have f20 := and_r (a := v5) (b := (1 : Int32)) (by omega)
        replace c8 := i_ne.mp c8
        exact sX9_loosen_111 hS (by omega) (by omega) (by omega) (by omega) (by omega) (by omega) (by omega) (by omega) (by omega) (by omega) (by omega) xl (by omega) hr37 hr54
set_option maxHeartbeats 4000000 in
theorem sLX9_loosen_54 {s0 : Sg} {r37 : (Int32 × Int32 × Sg) → Option (Sg)} {v1 : Int32} {v2 : Int32} {v3 : Int32} {v4 : Int32} {v5 : Int32} {sg : Sg} (hS : StC MX9_loosen s0 sg) (v1l : 0 ≤ v1.toInt) (v1h : v1.toInt ≤ 4095) (v2l : 0 ≤ v2.toInt) (v2h : v2.toInt ≤ 4094) (v3h : v3.toInt ≤ 1000000000) (v4l : 0 ≤ v4.toInt) (v4h : v4.toInt ≤ 12) (v5l : 0 ≤ v5.toInt) (v5h : v5.toInt ≤ 4095) (xv : (v1.toInt = pw sg - 1)) (xc : (pw sg ≤ (sg 99 65).toInt)) (xl : (lft v4 v5 sg)) (xa : (v2.toInt < pw sg)) (hr37 : ∀ (v1' : Int32) (v2' : Int32) (sg' : Sg), StC MX9_loosen s0 sg' → 0 ≤ v1'.toInt → v1'.toInt ≤ 4095 → (-1) ≤ v2'.toInt → v2'.toInt ≤ 4094 → (v1'.toInt = pw sg' - 1) → (pw sg' ≤ (sg' 99 65).toInt) → (v2'.toInt < pw sg') → v2'.toInt < v2.toInt → Ok (PVC MX9_loosen s0) (r37 (v1', v2', sg'))) : Ok (PVC MX9_loosen s0) (LX9_loosen_54 r37 (v1, v2, v3, v4, v5, sg)) := by
  unfold LX9_loosen_54
  refine ok_loop (I := fun (z : Int32 × Int32 × Int32 × Int32 × Int32 × Sg) => StC MX9_loosen s0 z.2.2.2.2.2 ∧ 0 ≤ z.1.toInt ∧ z.1.toInt ≤ 4095 ∧ 0 ≤ z.2.1.toInt ∧ z.2.1.toInt ≤ 4094 ∧ z.2.2.1.toInt ≤ 1000000000 ∧ 0 ≤ z.2.2.2.1.toInt ∧ z.2.2.2.1.toInt ≤ 12 ∧ 0 ≤ z.2.2.2.2.1.toInt ∧ z.2.2.2.2.1.toInt ≤ 4095 ∧ (z.1.toInt = pw z.2.2.2.2.2 - 1) ∧ (pw z.2.2.2.2.2 ≤ (z.2.2.2.2.2 99 65).toInt) ∧ (lft z.2.2.2.1 z.2.2.2.2.1 z.2.2.2.2.2) ∧ (z.2.1.toInt < pw z.2.2.2.2.2) ∧ (∀ (v1' : Int32) (v2' : Int32) (sg' : Sg), StC MX9_loosen s0 sg' → 0 ≤ v1'.toInt → v1'.toInt ≤ 4095 → (-1) ≤ v2'.toInt → v2'.toInt ≤ 4094 → (v1'.toInt = pw sg' - 1) → (pw sg' ≤ (sg' 99 65).toInt) → (v2'.toInt < pw sg') → v2'.toInt < z.2.1.toInt → Ok (PVC MX9_loosen s0) (r37 (v1', v2', sg')))) (m := fun (z : Int32 × Int32 × Int32 × Int32 × Int32 × Sg) => (13 - z.2.2.2.1.toInt).toNat) _ ?_ ?_ _ ?_
  · intro z hz
    obtain ⟨h0, h1, h2, h3, h4, h5, h6, h7, h8, h9, h10, h11, h12, h13, h14⟩ := hz
    show (13 - z.2.2.2.1.toInt).toNat < 10000
    omega
  · intro rec z hz hrec
    obtain ⟨v1, v2, v3, v4, v5, sg⟩ := z
    replace hz : StC MX9_loosen s0 sg ∧ 0 ≤ v1.toInt ∧ v1.toInt ≤ 4095 ∧ 0 ≤ v2.toInt ∧ v2.toInt ≤ 4094 ∧ v3.toInt ≤ 1000000000 ∧ 0 ≤ v4.toInt ∧ v4.toInt ≤ 12 ∧ 0 ≤ v5.toInt ∧ v5.toInt ≤ 4095 ∧ (v1.toInt = pw sg - 1) ∧ (pw sg ≤ (sg 99 65).toInt) ∧ (lft v4 v5 sg) ∧ (v2.toInt < pw sg) ∧ (∀ (v1' : Int32) (v2' : Int32) (sg' : Sg), StC MX9_loosen s0 sg' → 0 ≤ v1'.toInt → v1'.toInt ≤ 4095 → (-1) ≤ v2'.toInt → v2'.toInt ≤ 4094 → (v1'.toInt = pw sg' - 1) → (pw sg' ≤ (sg' 99 65).toInt) → (v2'.toInt < pw sg') → v2'.toInt < v2.toInt → Ok (PVC MX9_loosen s0) (r37 (v1', v2', sg'))) := hz
    obtain ⟨h0, h1, h2, h3, h4, h5, h6, h7, h8, h9, h10, h11, h12, h13, h14⟩ := hz
    show Ok (PVC MX9_loosen s0) (fX9_loosen_54 r37 rec v1 v2 v3 v4 v5 sg)
    exact sX9_loosen_54 h0 h1 h2 h3 h4 h5 h6 h7 h8 h9 h10 h11 h12 h13 h14 (fun v1' v2' v3' v4' v5' sg' g0 g1 g2 g3 g4 g5 g6 g7 g8 g9 g10 g11 g12 g13 g14 g15 => hrec (v1', v2', v3', v4', v5', sg') ⟨g0, g1, g2, g3, g4, g5, g6, g7, g8, g9, g10, g11, g12, g13, g14⟩ (show (13 - v4'.toInt).toNat < (13 - v4.toInt).toNat by omega))
  · exact ⟨hS, v1l, v1h, v2l, v2h, v3h, v4l, v4h, v5l, v5h, xv, xc, xl, xa, hr37⟩
set_option maxHeartbeats 4000000 in
theorem sX9_loosen_37 {s0 : Sg} {r37 : (Int32 × Int32 × Sg) → Option (Sg)} {v1 : Int32} {v2 : Int32} {sg : Sg} (hS : StC MX9_loosen s0 sg) (v1l : 0 ≤ v1.toInt) (v1h : v1.toInt ≤ 4095) (v2l : (-1) ≤ v2.toInt) (v2h : v2.toInt ≤ 4094) (xv : v1.toInt = pw sg - 1) (xc : pw sg ≤ (sg 99 65).toInt) (xa : v2.toInt < pw sg) (hr37 : ∀ (v1' : Int32) (v2' : Int32) (sg' : Sg), StC MX9_loosen s0 sg' → 0 ≤ v1'.toInt → v1'.toInt ≤ 4095 → (-1) ≤ v2'.toInt → v2'.toInt ≤ 4094 → (v1'.toInt = pw sg' - 1) → (pw sg' ≤ (sg' 99 65).toInt) → (v2'.toInt < pw sg') → v2'.toInt < v2.toInt → Ok (PVC MX9_loosen s0) (r37 (v1', v2', sg'))) : Ok (PVC MX9_loosen s0) (fX9_loosen_37 r37 v1 v2 sg) := by
  unfold fX9_loosen_37
  refine ok_ite (fun c1 => ?_) (fun c1 => ?_)
  · have k2 : (0 : Int32).toInt = 0 := by decide
    replace c1 := i_lt.mp c1
    have f3 := rdC99_65 hS.1.1
    refine ok_ginL (by omega) (by omega) ?_
    refine ok_lt (fun x3 ex3 => ?_)
    replace ex3 := congrArg Int32.toInt ex3
    refine ok_lt (fun sg4 esg4 => ?_)
    have hS4 := upC4_5 hS (by decide) esg4
    have e5 : pw sg4 = pw sg := pw_cg (by rw [esg4]; rfl)
    have e6 : (sg4 99 65).toInt = (sg 99 65).toInt := by rw [esg4]; rfl
    have e7 : (sg4 4 5).toInt = x3.toInt := by rw [esg4]; rfl
    exact ok_some (mkPVC hS4)
  · have k8 : (0 : Int32).toInt = 0 := by decide
    replace c1 := i_nlt.mp c1
    have f9 := and_l (a := v1) (b := (v2 ^^^ (-1 : Int32))) (by omega)
    refine ok_lt (fun x5 ex5 => ?_)
    replace ex5 := congrArg Int32.toInt ex5
    have k10 : (1000000000 : Int32).toInt = 1000000000 := by decide
    exact sLX9_loosen_54 hS (by omega) (by omega) (by omega) (by omega) (by omega) (by omega) (by omega) (by omega) (by omega) (by omega) (by omega) (lft_0 (by omega) (by omega)) (by omega) hr37
set_option maxHeartbeats 4000000 in
theorem sLX9_loosen_37 {s0 : Sg} {v1 : Int32} {v2 : Int32} {sg : Sg} (hS : StC MX9_loosen s0 sg) (v1l : 0 ≤ v1.toInt) (v1h : v1.toInt ≤ 4095) (v2l : (-1) ≤ v2.toInt) (v2h : v2.toInt ≤ 4094) (xv : (v1.toInt = pw sg - 1)) (xc : (pw sg ≤ (sg 99 65).toInt)) (xa : (v2.toInt < pw sg)) : Ok (PVC MX9_loosen s0) (LX9_loosen_37 (v1, v2, sg)) := by
  unfold LX9_loosen_37
  refine ok_loop (I := fun (z : Int32 × Int32 × Sg) => StC MX9_loosen s0 z.2.2 ∧ 0 ≤ z.1.toInt ∧ z.1.toInt ≤ 4095 ∧ (-1) ≤ z.2.1.toInt ∧ z.2.1.toInt ≤ 4094 ∧ (z.1.toInt = pw z.2.2 - 1) ∧ (pw z.2.2 ≤ (z.2.2 99 65).toInt) ∧ (z.2.1.toInt < pw z.2.2)) (m := fun (z : Int32 × Int32 × Sg) => (z.2.1.toInt - (-2)).toNat) _ ?_ ?_ _ ?_
  · intro z hz
    obtain ⟨h0, h1, h2, h3, h4, h5, h6, h7⟩ := hz
    show (z.2.1.toInt - (-2)).toNat < 10000
    omega
  · intro rec z hz hrec
    obtain ⟨v1, v2, sg⟩ := z
    replace hz : StC MX9_loosen s0 sg ∧ 0 ≤ v1.toInt ∧ v1.toInt ≤ 4095 ∧ (-1) ≤ v2.toInt ∧ v2.toInt ≤ 4094 ∧ (v1.toInt = pw sg - 1) ∧ (pw sg ≤ (sg 99 65).toInt) ∧ (v2.toInt < pw sg) := hz
    obtain ⟨h0, h1, h2, h3, h4, h5, h6, h7⟩ := hz
    show Ok (PVC MX9_loosen s0) (fX9_loosen_37 rec v1 v2 sg)
    exact sX9_loosen_37 h0 h1 h2 h3 h4 h5 h6 h7 (fun v1' v2' sg' g0 g1 g2 g3 g4 g5 g6 g7 g8 => hrec (v1', v2', sg') ⟨g0, g1, g2, g3, g4, g5, g6, g7⟩ (show (v2'.toInt - (-2)).toNat < (v2.toInt - (-2)).toNat by omega))
  · exact ⟨hS, v1l, v1h, v2l, v2h, xv, xc, xa⟩
set_option maxHeartbeats 4000000 in
theorem sX9_loosen_26 {s0 : Sg} {v1 : Int32} {sg : Sg} (hS : StC MX9_loosen s0 sg) (v1l : 0 ≤ v1.toInt) (v1h : v1.toInt ≤ 4095) (xv : v1.toInt = pw sg - 1) (xc : pw sg ≤ (sg 99 65).toInt) : Ok (PVC MX9_loosen s0) (fX9_loosen_26 v1 sg) := by
  unfold fX9_loosen_26
  have f1 := rdC99_65 hS.1.1
  refine ok_ginL (by omega) (by omega) ?_
  have k2 : (0 : Int32).toInt = 0 := by decide
  refine ok_lt (fun sg2 esg2 => ?_)
  have hS3 := upC65 hS (by decide) esg2
  have e4 : pw sg2 = pw sg := pw_cg (by rw [esg2]; rfl)
  have e5 : (sg2 99 65).toInt = (sg 99 65).toInt := by rw [esg2]; rfl
  refine ok_lt (fun x3 ex3 => ?_)
  replace ex3 : x3.toInt = v1.toInt - 1 := by rw [ex3]; exact sub_c 1 (by decide) (by omega) (by omega)
  exact sLX9_loosen_37 hS3 (by omega) (by omega) (by omega) (by omega) (by omega) (by omega) (by omega)
set_option maxHeartbeats 4000000 in
theorem sX9_loosen {sg : Sg} (hI : IC sg) : Ok (PVC MX9_loosen sg) (fX9_loosen sg) := by
  have hS : StC MX9_loosen sg sg := StC.rf hI
  unfold fX9_loosen
  refine bnd2_pxC (sX8_all  hS.1.1) (fun y1 qy1 zy1 xy1 => ?_)
  replace xy1 : y1.toInt = pw sg - 1 := xy1
  refine ok_ite (fun c1 => ?_) (fun c1 => ?_)
  · have f2 := rdC99_65 hS.1.1
    have f3 := ofn_i (x := (sg 99 65)) (by omega)
    replace c1 := i_lt.mp c1
    exact sX9_loosen_26 hS (by omega) (by omega) (by omega) (by omega)
  · have f4 := rdC99_65 hS.1.1
    have f5 := ofn_i (x := (sg 99 65)) (by omega)
    replace c1 := i_nlt.mp c1
    refine ok_lt (fun x5 ex5 => ?_)
    replace ex5 : x5.toInt = y1.toInt + 1 := by rw [ex5]; exact add_c 1 (by decide) (by omega) (by omega)
    refine ok_gnw (by omega) (by omega) ?_
    refine ok_lt (fun sg7 esg7 => ?_)
    have hS6 := nwC65 (n := x5) hS (by decide) (by decide) esg7 (by omega) (by omega)
    have e7 : pw sg7 = pw sg := pw_cg (by rw [esg7]; rfl)
    have e8 : (sg7 99 65).toInt = x5.toInt := by rw [esg7]; rfl
    exact sX9_loosen_26 hS6 (by omega) (by omega) (by omega) (by omega)
set_option maxHeartbeats 4000000 in
theorem sX9_looseWeight {sg : Sg} (hI : IC sg) : Ok (PLC MX9_looseWeight sg) (fX9_looseWeight sg) := by
  have hS : StC MX9_looseWeight sg sg := StC.rf hI
  unfold fX9_looseWeight
  refine bnd1_pvxC (sX4_prepare  hS.1) (fun sg1 hsg1 xsg1 => ?_)
  replace xsg1 : (sg1 3 1).toInt = (sg1 1 1).toInt := xsg1
  have hS1 := hS.tr hsg1 (by decide)
  refine ok_ite (fun c2 => ?_) (fun c2 => ?_)
  · replace c2 := i_eq.mp c2
    exact ok_some (mkPLC hS1)
  · replace c2 := i_ne.mp c2
    refine ok_lt (fun x4 ex4 => ?_)
    replace ex4 := congrArg Int32.toInt ex4
    refine ok_lt (fun sg5 esg5 => ?_)
    have hS3 := upC4_4 hS1 (by decide) esg5
    have e4 : (sg5 1 1).toInt = (sg1 1 1).toInt := by rw [esg5]; rfl
    have e5 : (sg5 3 1).toInt = (sg1 3 1).toInt := by rw [esg5]; rfl
    have e6 : (sg5 4 4).toInt = x4.toInt := by rw [esg5]; rfl
    refine bnd1_pvC (sX9_loosen  hS3.1) (fun sg6 hsg6 => ?_)
    have e7 : (sg6 1 1).toInt = (sg5 1 1).toInt := congrArg Int32.toInt (congrFun (hsg6.fr 1 (by decide)) _)
    have e8 : (sg6 3 1).toInt = (sg5 3 1).toInt := congrArg Int32.toInt (congrFun (hsg6.fr 3 (by decide)) _)
    have hS9 := hS3.tr hsg6 (by decide)
    exact ok_some (mkPLC hS9)
set_option maxHeartbeats 4000000 in
theorem sX11_loose {sg : Sg} (hI : IC sg) : Ok (PLC MX11_loose sg) (fX11_loose sg) := by
  have hS : StC MX11_loose sg sg := StC.rf hI
  unfold fX11_loose
  refine bnd2_plC (sX9_looseWeight  hS.1) (fun y1 sg2 hsg2 => ?_)
  have hS1 := hS.tr hsg2 (by decide)
  exact ok_some (mkPLC hS1)
