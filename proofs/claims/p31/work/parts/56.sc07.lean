set_option maxHeartbeats 4000000 in
theorem sJ7_fill_53178_c41_5 {s0 : Sg} {r5 : (Int32 × Int32 × Int32 × Sg) → Option (Sg)} {v1 : Int32} {v2 : Int32} {v3 : Int32} {sg : Sg} (hS : StC MJ7_fill_53178_c41 s0 sg) (v1l : 0 ≤ v1.toInt) (v1h : v1.toInt ≤ 0) (v2l : 0 ≤ v2.toInt) (v2h : v2.toInt ≤ 12) (v3l : 12 ≤ v3.toInt) (v3h : v3.toInt ≤ 12) (hr5 : ∀ (v1' : Int32) (v2' : Int32) (v3' : Int32) (sg' : Sg), StC MJ7_fill_53178_c41 s0 sg' → 0 ≤ v1'.toInt → v1'.toInt ≤ 0 → 0 ≤ v2'.toInt → v2'.toInt ≤ 12 → 12 ≤ v3'.toInt → v3'.toInt ≤ 12 → v2.toInt < v2'.toInt → Ok (PVC MJ7_fill_53178_c41 s0) (r5 (v1', v2', v3', sg'))) : Ok (PVC MJ7_fill_53178_c41 s0) (fJ7_fill_53178_c41_5 r5 v1 v2 v3 sg) := by
  unfold fJ7_fill_53178_c41_5
  refine ok_ite (fun c1 => ?_) (fun c1 => ?_)
  · replace c1 := i_le.mp c1
    exact ok_some (mkPVC hS)
  · replace c1 := i_nle.mp c1
    refine ok_gin (by omega) (by omega) ?_
    refine ok_lt (fun sg3 esg3 => ?_)
    have hS2 := upC41 hS (by decide) esg3 (by omega) (by omega)
    refine ok_lt (fun x4 ex4 => ?_)
    replace ex4 : x4.toInt = v2.toInt + 1 := by rw [ex4]; exact add_c 1 (by decide) (by omega) (by omega)
    exact hr5 v1 x4 v3 sg3 hS2 (by omega) (by omega) (by omega) (by omega) (by omega) (by omega) (by omega)
set_option maxHeartbeats 4000000 in
theorem sLJ7_fill_53178_c41_5 {s0 : Sg} {v1 : Int32} {v2 : Int32} {v3 : Int32} {sg : Sg} (hS : StC MJ7_fill_53178_c41 s0 sg) (v1l : 0 ≤ v1.toInt) (v1h : v1.toInt ≤ 0) (v2l : 0 ≤ v2.toInt) (v2h : v2.toInt ≤ 12) (v3l : 12 ≤ v3.toInt) (v3h : v3.toInt ≤ 12) : Ok (PVC MJ7_fill_53178_c41 s0) (LJ7_fill_53178_c41_5 (v1, v2, v3, sg)) := by
  unfold LJ7_fill_53178_c41_5
  refine ok_loop (I := fun (z : Int32 × Int32 × Int32 × Sg) => StC MJ7_fill_53178_c41 s0 z.2.2.2 ∧ 0 ≤ z.1.toInt ∧ z.1.toInt ≤ 0 ∧ 0 ≤ z.2.1.toInt ∧ z.2.1.toInt ≤ 12 ∧ 12 ≤ z.2.2.1.toInt ∧ z.2.2.1.toInt ≤ 12) (m := fun (z : Int32 × Int32 × Int32 × Sg) => (13 - z.2.1.toInt).toNat) _ ?_ ?_ _ ?_
  · intro z hz
    obtain ⟨h0, h1, h2, h3, h4, h5, h6⟩ := hz
    show (13 - z.2.1.toInt).toNat < 10000
    omega
  · intro rec z hz hrec
    obtain ⟨v1, v2, v3, sg⟩ := z
    replace hz : StC MJ7_fill_53178_c41 s0 sg ∧ 0 ≤ v1.toInt ∧ v1.toInt ≤ 0 ∧ 0 ≤ v2.toInt ∧ v2.toInt ≤ 12 ∧ 12 ≤ v3.toInt ∧ v3.toInt ≤ 12 := hz
    obtain ⟨h0, h1, h2, h3, h4, h5, h6⟩ := hz
    show Ok (PVC MJ7_fill_53178_c41 s0) (fJ7_fill_53178_c41_5 rec v1 v2 v3 sg)
    exact sJ7_fill_53178_c41_5 h0 h1 h2 h3 h4 h5 h6 (fun v1' v2' v3' sg' g0 g1 g2 g3 g4 g5 g6 g7 => hrec (v1', v2', v3', sg') ⟨g0, g1, g2, g3, g4, g5, g6⟩ (show (13 - v2'.toInt).toNat < (13 - v2.toInt).toNat by omega))
  · exact ⟨hS, v1l, v1h, v2l, v2h, v3l, v3h⟩
set_option maxHeartbeats 4000000 in
theorem sJ7_fill_53178_c41 {v1 : Int32} {sg : Sg} (hI : IC sg) (v1l : 0 ≤ v1.toInt) (v1h : v1.toInt ≤ 0) : Ok (PVC MJ7_fill_53178_c41 sg) (fJ7_fill_53178_c41 v1 sg) := by
  have hS : StC MJ7_fill_53178_c41 sg sg := StC.rf hI
  unfold fJ7_fill_53178_c41
  have k1 : (0 : Int32).toInt = 0 := by decide
  have k2 : (12 : Int32).toInt = 12 := by decide
  exact sLJ7_fill_53178_c41_5 hS (by omega) (by omega) (by omega) (by omega) (by omega) (by omega)
set_option maxHeartbeats 4000000 in
theorem sJ7_fill_53178_c42_5 {s0 : Sg} {r5 : (Int32 × Int32 × Int32 × Sg) → Option (Sg)} {v1 : Int32} {v2 : Int32} {v3 : Int32} {sg : Sg} (hS : StC MJ7_fill_53178_c42 s0 sg) (v1l : 0 ≤ v1.toInt) (v1h : v1.toInt ≤ 0) (v2l : 0 ≤ v2.toInt) (v2h : v2.toInt ≤ 12) (v3l : 12 ≤ v3.toInt) (v3h : v3.toInt ≤ 12) (hr5 : ∀ (v1' : Int32) (v2' : Int32) (v3' : Int32) (sg' : Sg), StC MJ7_fill_53178_c42 s0 sg' → 0 ≤ v1'.toInt → v1'.toInt ≤ 0 → 0 ≤ v2'.toInt → v2'.toInt ≤ 12 → 12 ≤ v3'.toInt → v3'.toInt ≤ 12 → v2.toInt < v2'.toInt → Ok (PVC MJ7_fill_53178_c42 s0) (r5 (v1', v2', v3', sg'))) : Ok (PVC MJ7_fill_53178_c42 s0) (fJ7_fill_53178_c42_5 r5 v1 v2 v3 sg) := by
  unfold fJ7_fill_53178_c42_5
  refine ok_ite (fun c1 => ?_) (fun c1 => ?_)
  · replace c1 := i_le.mp c1
    exact ok_some (mkPVC hS)
  · replace c1 := i_nle.mp c1
    refine ok_gin (by omega) (by omega) ?_
    refine ok_lt (fun sg3 esg3 => ?_)
    have hS2 := upC42 hS (by decide) esg3 (by omega) (by omega)
    refine ok_lt (fun x4 ex4 => ?_)
    replace ex4 : x4.toInt = v2.toInt + 1 := by rw [ex4]; exact add_c 1 (by decide) (by omega) (by omega)
    exact hr5 v1 x4 v3 sg3 hS2 (by omega) (by omega) (by omega) (by omega) (by omega) (by omega) (by omega)
set_option maxHeartbeats 4000000 in
theorem sLJ7_fill_53178_c42_5 {s0 : Sg} {v1 : Int32} {v2 : Int32} {v3 : Int32} {sg : Sg} (hS : StC MJ7_fill_53178_c42 s0 sg) (v1l : 0 ≤ v1.toInt) (v1h : v1.toInt ≤ 0) (v2l : 0 ≤ v2.toInt) (v2h : v2.toInt ≤ 12) (v3l : 12 ≤ v3.toInt) (v3h : v3.toInt ≤ 12) : Ok (PVC MJ7_fill_53178_c42 s0) (LJ7_fill_53178_c42_5 (v1, v2, v3, sg)) := by
  unfold LJ7_fill_53178_c42_5
  refine ok_loop (I := fun (z : Int32 × Int32 × Int32 × Sg) => StC MJ7_fill_53178_c42 s0 z.2.2.2 ∧ 0 ≤ z.1.toInt ∧ z.1.toInt ≤ 0 ∧ 0 ≤ z.2.1.toInt ∧ z.2.1.toInt ≤ 12 ∧ 12 ≤ z.2.2.1.toInt ∧ z.2.2.1.toInt ≤ 12) (m := fun (z : Int32 × Int32 × Int32 × Sg) => (13 - z.2.1.toInt).toNat) _ ?_ ?_ _ ?_
  · intro z hz
    obtain ⟨h0, h1, h2, h3, h4, h5, h6⟩ := hz
    show (13 - z.2.1.toInt).toNat < 10000
    omega
  · intro rec z hz hrec
    obtain ⟨v1, v2, v3, sg⟩ := z
    replace hz : StC MJ7_fill_53178_c42 s0 sg ∧ 0 ≤ v1.toInt ∧ v1.toInt ≤ 0 ∧ 0 ≤ v2.toInt ∧ v2.toInt ≤ 12 ∧ 12 ≤ v3.toInt ∧ v3.toInt ≤ 12 := hz
    obtain ⟨h0, h1, h2, h3, h4, h5, h6⟩ := hz
    show Ok (PVC MJ7_fill_53178_c42 s0) (fJ7_fill_53178_c42_5 rec v1 v2 v3 sg)
    exact sJ7_fill_53178_c42_5 h0 h1 h2 h3 h4 h5 h6 (fun v1' v2' v3' sg' g0 g1 g2 g3 g4 g5 g6 g7 => hrec (v1', v2', v3', sg') ⟨g0, g1, g2, g3, g4, g5, g6⟩ (show (13 - v2'.toInt).toNat < (13 - v2.toInt).toNat by omega))
  · exact ⟨hS, v1l, v1h, v2l, v2h, v3l, v3h⟩
set_option maxHeartbeats 4000000 in
theorem sJ7_fill_53178_c42 {v1 : Int32} {sg : Sg} (hI : IC sg) (v1l : 0 ≤ v1.toInt) (v1h : v1.toInt ≤ 0) : Ok (PVC MJ7_fill_53178_c42 sg) (fJ7_fill_53178_c42 v1 sg) := by
  have hS : StC MJ7_fill_53178_c42 sg sg := StC.rf hI
  unfold fJ7_fill_53178_c42
  have k1 : (0 : Int32).toInt = 0 := by decide
  have k2 : (12 : Int32).toInt = 12 := by decide
  exact sLJ7_fill_53178_c42_5 hS (by omega) (by omega) (by omega) (by omega) (by omega) (by omega)
set_option maxHeartbeats 4000000 in
theorem sX10_takeAllPecks_92 {s0 : Sg} {r18 : (Int32 × Sg) → Option (Sg)} {r31 : (Int32 × Int32 × Sg) → Option (Sg)} {v1 : Int32} {v2 : Int32} {sg : Sg} (hS : StC MX10_takeAllPecks s0 sg) (v1l : 0 ≤ v1.toInt) (v1h : v1.toInt ≤ 11) (v2l : 0 ≤ v2.toInt) (v2h : v2.toInt ≤ 11) (hr18 : ∀ (v1' : Int32) (sg' : Sg), StC MX10_takeAllPecks s0 sg' → 0 ≤ v1'.toInt → v1'.toInt ≤ 12 → v1.toInt < v1'.toInt → Ok (PVC MX10_takeAllPecks s0) (r18 (v1', sg'))) (hr31 : ∀ (v1' : Int32) (v2' : Int32) (sg' : Sg), StC MX10_takeAllPecks s0 sg' → 0 ≤ v1'.toInt → v1'.toInt ≤ 11 → 0 ≤ v2'.toInt → v2'.toInt ≤ 12 → (∀ (v1'' : Int32) (sg'' : Sg), StC MX10_takeAllPecks s0 sg'' → 0 ≤ v1''.toInt → v1''.toInt ≤ 12 → v1'.toInt < v1''.toInt → Ok (PVC MX10_takeAllPecks s0) (r18 (v1'', sg''))) → v2.toInt < v2'.toInt → Ok (PVC MX10_takeAllPecks s0) (r31 (v1', v2', sg'))) : Ok (PVC MX10_takeAllPecks s0) (fX10_takeAllPecks_92 r18 r31 v1 v2 sg) := by
  unfold fX10_takeAllPecks_92
  refine ok_lt (fun x1 ex1 => ?_)
  replace ex1 : x1.toInt = v2.toInt + 1 := by rw [ex1]; exact add_c 1 (by decide) (by omega) (by omega)
  exact hr31 v1 x1 sg hS (by omega) (by omega) (by omega) (by omega) hr18 (by omega)
set_option maxHeartbeats 4000000 in
theorem sX10_takeAllPecks_31 {s0 : Sg} {r18 : (Int32 × Sg) → Option (Sg)} {r31 : (Int32 × Int32 × Sg) → Option (Sg)} {v1 : Int32} {v2 : Int32} {sg : Sg} (hS : StC MX10_takeAllPecks s0 sg) (v1l : 0 ≤ v1.toInt) (v1h : v1.toInt ≤ 11) (v2l : 0 ≤ v2.toInt) (v2h : v2.toInt ≤ 12) (hr18 : ∀ (v1' : Int32) (sg' : Sg), StC MX10_takeAllPecks s0 sg' → 0 ≤ v1'.toInt → v1'.toInt ≤ 12 → v1.toInt < v1'.toInt → Ok (PVC MX10_takeAllPecks s0) (r18 (v1', sg'))) (hr31 : ∀ (v1' : Int32) (v2' : Int32) (sg' : Sg), StC MX10_takeAllPecks s0 sg' → 0 ≤ v1'.toInt → v1'.toInt ≤ 11 → 0 ≤ v2'.toInt → v2'.toInt ≤ 12 → (∀ (v1'' : Int32) (sg'' : Sg), StC MX10_takeAllPecks s0 sg'' → 0 ≤ v1''.toInt → v1''.toInt ≤ 12 → v1'.toInt < v1''.toInt → Ok (PVC MX10_takeAllPecks s0) (r18 (v1'', sg''))) → v2.toInt < v2'.toInt → Ok (PVC MX10_takeAllPecks s0) (r31 (v1', v2', sg'))) : Ok (PVC MX10_takeAllPecks s0) (fX10_takeAllPecks_31 r18 r31 v1 v2 sg) := by
  unfold fX10_takeAllPecks_31
  refine ok_ite (fun c1 => ?_) (fun c1 => ?_)
  · have f2 := rdC3_2 hS.1.1
    replace c1 := i_le.mp c1
    refine ok_lt (fun x2 ex2 => ?_)
    replace ex2 : x2.toInt = v1.toInt + 1 := by rw [ex2]; exact add_c 1 (by decide) (by omega) (by omega)
    exact hr18 x2 sg hS (by omega) (by omega) (by omega)
  · have f3 := rdC3_2 hS.1.1
    replace c1 := i_nle.mp c1
    refine bnd2_puC (sX8_peckOf (v1 := v1) (v2 := v2) hS.1 (by omega) (by omega) (by omega) (by omega)) (fun y3 qy3 zy3 => ?_)
    have k4 : (12 : Int32).toInt = 12 := by decide
    have f5 := mul_r (a := v1) (b := (12 : Int32)) 12 (by decide) (by omega) (by omega)
    have f6 := add_i (a := (v1 * (12 : Int32))) (b := v2) (by omega) (by omega)
    refine ok_gin (by omega) (by omega) ?_
    refine ok_lt (fun sg7 esg7 => ?_)
    have hS7 := upC40 hS (by decide) esg7
    have e8 : (sg7 3 2).toInt = (sg 3 2).toInt := by rw [esg7]; rfl
    refine ok_ite (fun c9 => ?_) (fun c9 => ?_)
    · have k10 : (0 : Int32).toInt = 0 := by decide
      replace c9 := i_le.mp c9
      exact sX10_takeAllPecks_92 hS7 (by omega) (by omega) (by omega) (by omega) hr18 hr31
    · have k11 : (0 : Int32).toInt = 0 := by decide
      replace c9 := i_nle.mp c9
      refine ok_gin (by omega) (by omega) ?_
      have f12 := rdC41 hS7.1.1 (j := v1.toNatClampNeg)
      have f13 := shl_i (v := v2) 11 2048 (by decide) (by decide) (by omega) (by omega)
      have f14 := or_i (a := (sg7 41 v1.toNatClampNeg)) (b := ((1 : Int32) <<< (v2 &&& 31))) 12 4096 (by decide) (by decide) (by omega) (by omega) (by omega) (by omega)
      refine ok_lt (fun x10 ex10 => ?_)
      replace ex10 := congrArg Int32.toInt ex10
      refine ok_gin (by omega) (by omega) ?_
      refine ok_lt (fun sg12 esg12 => ?_)
      have hS15 := upC41 hS7 (by decide) esg12 (by omega) (by omega)
      have e16 : (sg12 3 2).toInt = (sg7 3 2).toInt := by rw [esg12]; rfl
      refine ok_gin (by omega) (by omega) ?_
      have f17 := rdC42 hS15.1.1 (j := v2.toNatClampNeg)
      have f18 := shl_i (v := v1) 11 2048 (by decide) (by decide) (by omega) (by omega)
      have f19 := or_i (a := (sg12 42 v2.toNatClampNeg)) (b := ((1 : Int32) <<< (v1 &&& 31))) 12 4096 (by decide) (by decide) (by omega) (by omega) (by omega) (by omega)
      refine ok_lt (fun x14 ex14 => ?_)
      replace ex14 := congrArg Int32.toInt ex14
      refine ok_gin (by omega) (by omega) ?_
      refine ok_lt (fun sg16 esg16 => ?_)
      have hS20 := upC42 hS15 (by decide) esg16 (by omega) (by omega)
      have e21 : (sg16 3 2).toInt = (sg12 3 2).toInt := by rw [esg16]; rfl
      exact sX10_takeAllPecks_92 hS20 (by omega) (by omega) (by omega) (by omega) hr18 hr31
set_option maxHeartbeats 4000000 in
theorem sLX10_takeAllPecks_31 {s0 : Sg} {r18 : (Int32 × Sg) → Option (Sg)} {v1 : Int32} {v2 : Int32} {sg : Sg} (hS : StC MX10_takeAllPecks s0 sg) (v1l : 0 ≤ v1.toInt) (v1h : v1.toInt ≤ 11) (v2l : 0 ≤ v2.toInt) (v2h : v2.toInt ≤ 12) (hr18 : ∀ (v1' : Int32) (sg' : Sg), StC MX10_takeAllPecks s0 sg' → 0 ≤ v1'.toInt → v1'.toInt ≤ 12 → v1.toInt < v1'.toInt → Ok (PVC MX10_takeAllPecks s0) (r18 (v1', sg'))) : Ok (PVC MX10_takeAllPecks s0) (LX10_takeAllPecks_31 r18 (v1, v2, sg)) := by
  unfold LX10_takeAllPecks_31
  refine ok_loop (I := fun (z : Int32 × Int32 × Sg) => StC MX10_takeAllPecks s0 z.2.2 ∧ 0 ≤ z.1.toInt ∧ z.1.toInt ≤ 11 ∧ 0 ≤ z.2.1.toInt ∧ z.2.1.toInt ≤ 12 ∧ (∀ (v1' : Int32) (sg' : Sg), StC MX10_takeAllPecks s0 sg' → 0 ≤ v1'.toInt → v1'.toInt ≤ 12 → z.1.toInt < v1'.toInt → Ok (PVC MX10_takeAllPecks s0) (r18 (v1', sg')))) (m := fun (z : Int32 × Int32 × Sg) => (13 - z.2.1.toInt).toNat) _ ?_ ?_ _ ?_
  · intro z hz
    obtain ⟨h0, h1, h2, h3, h4, h5⟩ := hz
    show (13 - z.2.1.toInt).toNat < 10000
    omega
  · intro rec z hz hrec
    obtain ⟨v1, v2, sg⟩ := z
    replace hz : StC MX10_takeAllPecks s0 sg ∧ 0 ≤ v1.toInt ∧ v1.toInt ≤ 11 ∧ 0 ≤ v2.toInt ∧ v2.toInt ≤ 12 ∧ (∀ (v1' : Int32) (sg' : Sg), StC MX10_takeAllPecks s0 sg' → 0 ≤ v1'.toInt → v1'.toInt ≤ 12 → v1.toInt < v1'.toInt → Ok (PVC MX10_takeAllPecks s0) (r18 (v1', sg'))) := hz
    obtain ⟨h0, h1, h2, h3, h4, h5⟩ := hz
    show Ok (PVC MX10_takeAllPecks s0) (fX10_takeAllPecks_31 r18 rec v1 v2 sg)
    exact sX10_takeAllPecks_31 h0 h1 h2 h3 h4 h5 (fun v1' v2' sg' g0 g1 g2 g3 g4 g5 g6 => hrec (v1', v2', sg') ⟨g0, g1, g2, g3, g4, g5⟩ (show (13 - v2'.toInt).toNat < (13 - v2.toInt).toNat by omega))
  · exact ⟨hS, v1l, v1h, v2l, v2h, hr18⟩
set_option maxHeartbeats 4000000 in
theorem sX10_takeAllPecks_18 {s0 : Sg} {r18 : (Int32 × Sg) → Option (Sg)} {v1 : Int32} {sg : Sg} (hS : StC MX10_takeAllPecks s0 sg) (v1l : 0 ≤ v1.toInt) (v1h : v1.toInt ≤ 12) (hr18 : ∀ (v1' : Int32) (sg' : Sg), StC MX10_takeAllPecks s0 sg' → 0 ≤ v1'.toInt → v1'.toInt ≤ 12 → v1.toInt < v1'.toInt → Ok (PVC MX10_takeAllPecks s0) (r18 (v1', sg'))) : Ok (PVC MX10_takeAllPecks s0) (fX10_takeAllPecks_18 r18 v1 sg) := by
  unfold fX10_takeAllPecks_18
  refine ok_ite (fun c1 => ?_) (fun c1 => ?_)
  · have f2 := rdC3_2 hS.1.1
    replace c1 := i_le.mp c1
    exact ok_some (mkPVC hS)
  · have f3 := rdC3_2 hS.1.1
    replace c1 := i_nle.mp c1
    have k4 : (0 : Int32).toInt = 0 := by decide
    exact sLX10_takeAllPecks_31 hS (by omega) (by omega) (by omega) (by omega) hr18
set_option maxHeartbeats 4000000 in
theorem sLX10_takeAllPecks_18 {s0 : Sg} {v1 : Int32} {sg : Sg} (hS : StC MX10_takeAllPecks s0 sg) (v1l : 0 ≤ v1.toInt) (v1h : v1.toInt ≤ 12) : Ok (PVC MX10_takeAllPecks s0) (LX10_takeAllPecks_18 (v1, sg)) := by
  unfold LX10_takeAllPecks_18
  refine ok_loop (I := fun (z : Int32 × Sg) => StC MX10_takeAllPecks s0 z.2 ∧ 0 ≤ z.1.toInt ∧ z.1.toInt ≤ 12) (m := fun (z : Int32 × Sg) => (13 - z.1.toInt).toNat) _ ?_ ?_ _ ?_
  · intro z hz
    obtain ⟨h0, h1, h2⟩ := hz
    show (13 - z.1.toInt).toNat < 10000
    omega
  · intro rec z hz hrec
    obtain ⟨v1, sg⟩ := z
    replace hz : StC MX10_takeAllPecks s0 sg ∧ 0 ≤ v1.toInt ∧ v1.toInt ≤ 12 := hz
    obtain ⟨h0, h1, h2⟩ := hz
    show Ok (PVC MX10_takeAllPecks s0) (fX10_takeAllPecks_18 rec v1 sg)
    exact sX10_takeAllPecks_18 h0 h1 h2 (fun v1' sg' g0 g1 g2 g3 => hrec (v1', sg') ⟨g0, g1, g2⟩ (show (13 - v1'.toInt).toNat < (13 - v1.toInt).toNat by omega))
  · exact ⟨hS, v1l, v1h⟩
set_option maxHeartbeats 4000000 in
theorem sX10_takeAllPecks {sg : Sg} (hI : IC sg) : Ok (PVC MX10_takeAllPecks sg) (fX10_takeAllPecks sg) := by
  have hS : StC MX10_takeAllPecks sg sg := StC.rf hI
  unfold fX10_takeAllPecks
  have k1 : (0 : Int32).toInt = 0 := by decide
  refine bnd1_pvC (sJ7_fill_53178_c41 (v1 := (0 : Int32)) hS.1 (by omega) (by omega)) (fun sg1 hsg1 => ?_)
  have hS2 := hS.tr hsg1 (by decide)
  refine bnd1_pvC (sJ7_fill_53178_c42 (v1 := (0 : Int32)) hS2.1 (by omega) (by omega)) (fun sg3 hsg3 => ?_)
  have hS3 := hS2.tr hsg3 (by decide)
  exact sLX10_takeAllPecks_18 hS3 (by omega) (by omega)
set_option maxHeartbeats 4000000 in
theorem sX10_peckersOfSet_32 {r4 : (Int32 × Int32 × Int32 × Sg) → Option (Int32 × Sg)} {v1 : Int32} {v2 : Int32} {v3 : Int32} {sg : Sg} (hI : IC sg) (v1l : 0 ≤ v1.toInt) (v1h : v1.toInt ≤ 4095) (v2l : 0 ≤ v2.toInt) (v2h : v2.toInt ≤ 4095) (v3l : 0 ≤ v3.toInt) (v3h : v3.toInt ≤ 11) (hr4 : ∀ (v1' : Int32) (v2' : Int32) (v3' : Int32), 0 ≤ v1'.toInt → v1'.toInt ≤ 4095 → 0 ≤ v2'.toInt → v2'.toInt ≤ 4095 → 0 ≤ v3'.toInt → v3'.toInt ≤ 12 → v3.toInt < v3'.toInt → Ok (PUC sg 0 4095) (r4 (v1', v2', v3', sg))) : Ok (PUC sg 0 4095) (fX10_peckersOfSet_32 r4 v1 v2 v3 sg) := by
  unfold fX10_peckersOfSet_32
  refine ok_lt (fun x1 ex1 => ?_)
  replace ex1 : x1.toInt = v3.toInt + 1 := by rw [ex1]; exact add_c 1 (by decide) (by omega) (by omega)
  exact hr4 v1 v2 x1 (by omega) (by omega) (by omega) (by omega) (by omega) (by omega) (by omega)
set_option maxHeartbeats 4000000 in
theorem sX10_peckersOfSet_4 {r4 : (Int32 × Int32 × Int32 × Sg) → Option (Int32 × Sg)} {v1 : Int32} {v2 : Int32} {v3 : Int32} {sg : Sg} (hI : IC sg) (v1l : 0 ≤ v1.toInt) (v1h : v1.toInt ≤ 4095) (v2l : 0 ≤ v2.toInt) (v2h : v2.toInt ≤ 4095) (v3l : 0 ≤ v3.toInt) (v3h : v3.toInt ≤ 12) (hr4 : ∀ (v1' : Int32) (v2' : Int32) (v3' : Int32), 0 ≤ v1'.toInt → v1'.toInt ≤ 4095 → 0 ≤ v2'.toInt → v2'.toInt ≤ 4095 → 0 ≤ v3'.toInt → v3'.toInt ≤ 12 → v3.toInt < v3'.toInt → Ok (PUC sg 0 4095) (r4 (v1', v2', v3', sg))) : Ok (PUC sg 0 4095) (fX10_peckersOfSet_4 r4 v1 v2 v3 sg) := by
  unfold fX10_peckersOfSet_4
  refine ok_ite (fun c1 => ?_) (fun c1 => ?_)
  · have f2 := rdC3_2 hI.1
    replace c1 := i_le.mp c1
    exact ok_some (mkPUC (by omega) (by omega))
  · have f3 := rdC3_2 hI.1
    replace c1 := i_nle.mp c1
    refine bnd2_pxC (sX11_isIn (v0 := v1) (v1 := v3) hI (by omega) (by omega) (by omega) (by omega)) (fun y2 qy2 zy2 xy2 => ?_)
    replace xy2 : y2.toInt = 0 ∨ 0 < (v1 >>> (v3 &&& 31)).toInt := xy2
    refine ok_ite (fun c4 => ?_) (fun c4 => ?_)
    · have k5 : (0 : Int32).toInt = 0 := by decide
      replace c4 := i_eq.mp c4
      exact sX10_peckersOfSet_32 hI (by omega) (by omega) (by omega) (by omega) (by omega) (by omega) hr4
    · have k6 : (0 : Int32).toInt = 0 := by decide
      replace c4 := i_ne.mp c4
      refine ok_gin (by omega) (by omega) ?_
      have f7 := rdC42 hI.1 (j := v3.toNatClampNeg)
      have f8 := or_i (a := v2) (b := (sg 42 v3.toNatClampNeg)) 12 4096 (by decide) (by decide) (by omega) (by omega) (by omega) (by omega)
      refine ok_lt (fun x8 ex8 => ?_)
      replace ex8 := congrArg Int32.toInt ex8
      exact sX10_peckersOfSet_32 hI (by omega) (by omega) (by omega) (by omega) (by omega) (by omega) hr4
set_option maxHeartbeats 4000000 in
theorem sLX10_peckersOfSet_4 {v1 : Int32} {v2 : Int32} {v3 : Int32} {sg : Sg} (hI : IC sg) (v1l : 0 ≤ v1.toInt) (v1h : v1.toInt ≤ 4095) (v2l : 0 ≤ v2.toInt) (v2h : v2.toInt ≤ 4095) (v3l : 0 ≤ v3.toInt) (v3h : v3.toInt ≤ 12) : Ok (PUC sg 0 4095) (LX10_peckersOfSet_4 (v1, v2, v3, sg)) := by
  unfold LX10_peckersOfSet_4
  refine ok_loop (I := fun (z : Int32 × Int32 × Int32 × Sg) => z.2.2.2 = sg ∧ 0 ≤ z.1.toInt ∧ z.1.toInt ≤ 4095 ∧ 0 ≤ z.2.1.toInt ∧ z.2.1.toInt ≤ 4095 ∧ 0 ≤ z.2.2.1.toInt ∧ z.2.2.1.toInt ≤ 12) (m := fun (z : Int32 × Int32 × Int32 × Sg) => (13 - z.2.2.1.toInt).toNat) _ ?_ ?_ _ ?_
  · intro z hz
    obtain ⟨h0, h1, h2, h3, h4, h5, h6⟩ := hz
    show (13 - z.2.2.1.toInt).toNat < 10000
    omega
  · intro rec z hz hrec
    obtain ⟨v1, v2, v3, sg1⟩ := z
    replace hz : sg1 = sg ∧ 0 ≤ v1.toInt ∧ v1.toInt ≤ 4095 ∧ 0 ≤ v2.toInt ∧ v2.toInt ≤ 4095 ∧ 0 ≤ v3.toInt ∧ v3.toInt ≤ 12 := hz
    obtain ⟨h0, h1, h2, h3, h4, h5, h6⟩ := hz
    subst sg1
    show Ok (PUC sg 0 4095) (fX10_peckersOfSet_4 rec v1 v2 v3 sg)
    exact sX10_peckersOfSet_4 hI h1 h2 h3 h4 h5 h6 (fun v1' v2' v3' g0 g1 g2 g3 g4 g5 g6 => hrec (v1', v2', v3', sg) ⟨rfl, g0, g1, g2, g3, g4, g5⟩ (show (13 - v3'.toInt).toNat < (13 - v3.toInt).toNat by omega))
  · exact ⟨rfl, v1l, v1h, v2l, v2h, v3l, v3h⟩
set_option maxHeartbeats 4000000 in
theorem sX10_peckersOfSet {v1 : Int32} {sg : Sg} (hI : IC sg) (v1l : 0 ≤ v1.toInt) (v1h : v1.toInt ≤ 4095) : Ok (PUC sg 0 4095) (fX10_peckersOfSet v1 sg) := by
  unfold fX10_peckersOfSet
  have k1 : (0 : Int32).toInt = 0 := by decide
  exact sLX10_peckersOfSet_4 hI (by omega) (by omega) (by omega) (by omega) (by omega) (by omega)
set_option maxHeartbeats 4000000 in
theorem sX10_lengthFrom_25 {s0 : Sg} {r25 : (Int32 × Int32 × Int32 × Int32 × Sg) → Option (Int32 × Sg)} {v1 : Int32} {v2 : Int32} {v3 : Int32} {v4 : Int32} {sg : Sg} (hS : StC MX10_lengthFrom s0 sg) (v1l : 0 ≤ v1.toInt) (v1h : v1.toInt ≤ 11) (v2l : 1 ≤ v2.toInt) (v2h : v2.toInt ≤ 13) (v3l : 0 ≤ v3.toInt) (v3h : v3.toInt ≤ 4095) (v4l : 1 ≤ v4.toInt) (v4h : v4.toInt ≤ 12) (hr25 : ∀ (v1' : Int32) (v2' : Int32) (v3' : Int32) (v4' : Int32) (sg' : Sg), StC MX10_lengthFrom s0 sg' → 0 ≤ v1'.toInt → v1'.toInt ≤ 11 → 1 ≤ v2'.toInt → v2'.toInt ≤ 13 → 0 ≤ v3'.toInt → v3'.toInt ≤ 4095 → 1 ≤ v4'.toInt → v4'.toInt ≤ 12 → v4.toInt < v4'.toInt → Ok (PIC MX10_lengthFrom s0 0 12) (r25 (v1', v2', v3', v4', sg'))) : Ok (PIC MX10_lengthFrom s0 0 12) (fX10_lengthFrom_25 r25 v1 v2 v3 v4 sg) := by
  unfold fX10_lengthFrom_25
  refine ok_ite (fun c1 => ?_) (fun c1 => ?_)
  · have k2 : (1 : Int32).toInt = 1 := by decide
    have f3 := add_i (a := v4) (b := (1 : Int32)) (by omega) (by omega)
    replace c1 := i_le.mp c1
    have k4 : (0 : Int32).toInt = 0 := by decide
    exact ok_some (mkPIC hS (by omega) (by omega))
  · have k5 : (1 : Int32).toInt = 1 := by decide
    have f6 := add_i (a := v4) (b := (1 : Int32)) (by omega) (by omega)
    replace c1 := i_nle.mp c1
    refine ok_ite (fun c7 => ?_) (fun c7 => ?_)
    · have k8 : (12 : Int32).toInt = 12 := by decide
      replace c7 := i_le.mp c7
      exfalso; omega
    · have k9 : (12 : Int32).toInt = 12 := by decide
      replace c7 := i_nle.mp c7
      refine ok_lt (fun x3 ex3 => ?_)
      replace ex3 : x3.toInt = v4.toInt - 1 := by rw [ex3]; exact sub_c 1 (by decide) (by omega) (by omega)
      refine ok_gin (by omega) (by omega) ?_
      have f10 := rdC43 hS.1.1 (j := x3.toNatClampNeg)
      refine bnd2_puC (sX10_peckersOfSet (v1 := (sg 43 x3.toNatClampNeg)) hS.1 (by omega) (by omega)) (fun y5 qy5 zy5 => ?_)
      have f11 := and_l (a := y5) (b := v3) (by omega)
      have f12 := and_r (a := y5) (b := v3) (by omega)
      refine ok_lt (fun x8 ex8 => ?_)
      replace ex8 := congrArg Int32.toInt ex8
      refine ok_gin (by omega) (by omega) ?_
      refine ok_lt (fun sg10 esg10 => ?_)
      have hS13 := upC43 hS (by decide) esg10 (by omega) (by omega)
      refine ok_gin (by omega) (by omega) ?_
      have f14 := and_l (a := v3) (b := ((sg10 43 v4.toNatClampNeg) ^^^ (-1 : Int32))) (by omega)
      refine ok_lt (fun x12 ex12 => ?_)
      replace ex12 := congrArg Int32.toInt ex12
      refine ok_gin (by omega) (by omega) ?_
      refine ok_ite (fun c15 => ?_) (fun c15 => ?_)
      · have f16 := rdC43 hS13.1.1 (j := v4.toNatClampNeg)
        have k17 : (0 : Int32).toInt = 0 := by decide
        replace c15 := i_eq.mp c15
        exact ok_some (mkPIC hS13 (by omega) (by omega))
      · have f18 := rdC43 hS13.1.1 (j := v4.toNatClampNeg)
        have k19 : (0 : Int32).toInt = 0 := by decide
        replace c15 := i_ne.mp c15
        refine ok_gin (by omega) (by omega) ?_
        refine ok_gin (by omega) (by omega) ?_
        refine ok_ite (fun c20 => ?_) (fun c20 => ?_)
        · have f21 := rdC41 hS13.1.1 (j := v1.toNatClampNeg)
          have f22 := and_l (a := (sg10 41 v1.toNatClampNeg)) (b := (sg10 43 v4.toNatClampNeg)) (by omega)
          have f23 := and_r (a := (sg10 41 v1.toNatClampNeg)) (b := (sg10 43 v4.toNatClampNeg)) (by omega)
          replace c20 := i_eq.mp c20
          refine ok_lt (fun x18 ex18 => ?_)
          replace ex18 := congrArg Int32.toInt ex18
          exact hr25 v1 v2 x12 x18 sg10 hS13 (by omega) (by omega) (by omega) (by omega) (by omega) (by omega) (by omega) (by omega) (by omega)
        · have f24 := rdC41 hS13.1.1 (j := v1.toNatClampNeg)
          have f25 := and_l (a := (sg10 41 v1.toNatClampNeg)) (b := (sg10 43 v4.toNatClampNeg)) (by omega)
          have f26 := and_r (a := (sg10 41 v1.toNatClampNeg)) (b := (sg10 43 v4.toNatClampNeg)) (by omega)
          replace c20 := i_ne.mp c20
          exact ok_some (mkPIC hS13 (by omega) (by omega))
set_option maxHeartbeats 4000000 in
theorem sLX10_lengthFrom_25 {s0 : Sg} {v1 : Int32} {v2 : Int32} {v3 : Int32} {v4 : Int32} {sg : Sg} (hS : StC MX10_lengthFrom s0 sg) (v1l : 0 ≤ v1.toInt) (v1h : v1.toInt ≤ 11) (v2l : 1 ≤ v2.toInt) (v2h : v2.toInt ≤ 13) (v3l : 0 ≤ v3.toInt) (v3h : v3.toInt ≤ 4095) (v4l : 1 ≤ v4.toInt) (v4h : v4.toInt ≤ 12) : Ok (PIC MX10_lengthFrom s0 0 12) (LX10_lengthFrom_25 (v1, v2, v3, v4, sg)) := by
  unfold LX10_lengthFrom_25
  refine ok_loop (I := fun (z : Int32 × Int32 × Int32 × Int32 × Sg) => StC MX10_lengthFrom s0 z.2.2.2.2 ∧ 0 ≤ z.1.toInt ∧ z.1.toInt ≤ 11 ∧ 1 ≤ z.2.1.toInt ∧ z.2.1.toInt ≤ 13 ∧ 0 ≤ z.2.2.1.toInt ∧ z.2.2.1.toInt ≤ 4095 ∧ 1 ≤ z.2.2.2.1.toInt ∧ z.2.2.2.1.toInt ≤ 12) (m := fun (z : Int32 × Int32 × Int32 × Int32 × Sg) => (13 - z.2.2.2.1.toInt).toNat) _ ?_ ?_ _ ?_
  · intro z hz
    obtain ⟨h0, h1, h2, h3, h4, h5, h6, h7, h8⟩ := hz
    show (13 - z.2.2.2.1.toInt).toNat < 10000
    omega
  · intro rec z hz hrec
    obtain ⟨v1, v2, v3, v4, sg⟩ := z
    replace hz : StC MX10_lengthFrom s0 sg ∧ 0 ≤ v1.toInt ∧ v1.toInt ≤ 11 ∧ 1 ≤ v2.toInt ∧ v2.toInt ≤ 13 ∧ 0 ≤ v3.toInt ∧ v3.toInt ≤ 4095 ∧ 1 ≤ v4.toInt ∧ v4.toInt ≤ 12 := hz
    obtain ⟨h0, h1, h2, h3, h4, h5, h6, h7, h8⟩ := hz
    show Ok (PIC MX10_lengthFrom s0 0 12) (fX10_lengthFrom_25 rec v1 v2 v3 v4 sg)
    exact sX10_lengthFrom_25 h0 h1 h2 h3 h4 h5 h6 h7 h8 (fun v1' v2' v3' v4' sg' g0 g1 g2 g3 g4 g5 g6 g7 g8 g9 => hrec (v1', v2', v3', v4', sg') ⟨g0, g1, g2, g3, g4, g5, g6, g7, g8⟩ (show (13 - v4'.toInt).toNat < (13 - v4.toInt).toNat by omega))
  · exact ⟨hS, v1l, v1h, v2l, v2h, v3l, v3h, v4l, v4h⟩
set_option maxHeartbeats 4000000 in
theorem sX10_lengthFrom {v1 : Int32} {v2 : Int32} {sg : Sg} (hI : IC sg) (v1l : 0 ≤ v1.toInt) (v1h : v1.toInt ≤ 11) (v2l : 1 ≤ v2.toInt) (v2h : v2.toInt ≤ 13) : Ok (PIC MX10_lengthFrom sg 0 12) (fX10_lengthFrom v1 v2 sg) := by
  have hS : StC MX10_lengthFrom sg sg := StC.rf hI
  unfold fX10_lengthFrom
  refine bnd2_pxC (sX8_all  hS.1.1) (fun y1 qy1 zy1 xy1 => ?_)
  replace xy1 : y1.toInt = pw sg - 1 := xy1
  have f1 := and_l (a := y1) (b := (-((2 : Int32) <<< (v1 &&& 31)))) (by omega)
  refine ok_lt (fun x4 ex4 => ?_)
  replace ex4 := congrArg Int32.toInt ex4
  have f2 := shl_i (v := v1) 11 2048 (by decide) (by decide) (by omega) (by omega)
  refine ok_lt (fun x5 ex5 => ?_)
  replace ex5 := congrArg Int32.toInt ex5
  have k3 : (0 : Int32).toInt = 0 := by decide
  refine ok_gin (by omega) (by omega) ?_
  refine ok_lt (fun sg7 esg7 => ?_)
  have hS4 := upC43 hS (by decide) esg7 (by omega) (by omega)
  have e5 : pw sg7 = pw sg := pw_cg (by rw [esg7]; rfl)
  have k6 : (1 : Int32).toInt = 1 := by decide
  exact sLX10_lengthFrom_25 hS4 (by omega) (by omega) (by omega) (by omega) (by omega) (by omega) (by omega) (by omega)
def bcv (v0 : Int32) : Int32 :=
  lt (v0 - ((v0.toUInt32 >>> ((1 : Int32).toUInt32 &&& Int32.toUInt32 31)).toInt32 &&& (1431655765 : Int32))) (fun x1 => lt ((x1 &&& (858993459 : Int32)) + ((x1.toUInt32 >>> ((2 : Int32).toUInt32 &&& Int32.toUInt32 31)).toInt32 &&& (858993459 : Int32))) (fun x2 => lt ((x2 + (x2.toUInt32 >>> ((4 : Int32).toUInt32 &&& Int32.toUInt32 31)).toInt32) &&& (252645135 : Int32)) (fun x3 => lt (x3 + (x3.toUInt32 >>> ((8 : Int32).toUInt32 &&& Int32.toUInt32 31)).toInt32) (fun x4 => lt (x4 + (x4.toUInt32 >>> ((16 : Int32).toUInt32 &&& Int32.toUInt32 31)).toInt32) (fun x5 => (x5 &&& (63 : Int32)))))))
theorem bcv_is (v0 : Int32) (sg : Sg) : fJ6_bitCount_0f7a4 v0 sg = some (bcv v0, sg) := rfl
theorem bcv_low : ∀ a : Nat, a < 64 → ∀ b : Nat, b < 64 → (bcv ((Int32.ofNat (64 * a + b) &&& (-Int32.ofNat (64 * a + b))) - (1 : Int32))).toInt ≤ 11 ∨ (64 * a + b = 0) := by decide +kernel
theorem bcv_nn : ∀ a : Nat, a < 64 → ∀ b : Nat, b < 64 → 0 ≤ (bcv ((Int32.ofNat (64 * a + b) &&& (-Int32.ofNat (64 * a + b))) - (1 : Int32))).toInt := by decide +kernel
theorem sX10_leastOf {v0 : Int32} {sg : Sg} (hI : IC sg) (v0l : 0 ≤ v0.toInt) (v0h : v0.toInt ≤ 4095) : Ok (PUC sg 0 11) (fX10_leastOf v0 sg) := by
  unfold fX10_leastOf
  have k0 : (0 : Int32).toInt = 0 := by decide
  refine ok_ite (fun c => ?_) (fun c => ?_)
  · exact ok_some (mkPUC (by omega) (by omega))
  · replace c := i_ne.mp c
    rw [bcv_is]
    have e := of_i v0l
    have e2 : v0.toInt.toNat = 64 * (v0.toInt.toNat / 64) + v0.toInt.toNat % 64 := by omega
    have h1 := bcv_low (v0.toInt.toNat / 64) (by omega) (v0.toInt.toNat % 64) (by omega)
    have h2 := bcv_nn (v0.toInt.toNat / 64) (by omega) (v0.toInt.toNat % 64) (by omega)
    rw [← e2, ← e] at h1 h2
    show Ok (PUC sg 0 11) (some (bcv ((v0 &&& (-v0)) - (1 : Int32)), sg))
    exact ok_some (mkPUC h2 (by omega))
set_option maxHeartbeats 4000000 in
theorem sX10_trace_9 {s0 : Sg} {r9 : (Int32 × Int32 × Sg) → Option (Sg)} {v2 : Int32} {v3 : Int32} {sg : Sg} (hS : StC MX10_trace s0 sg) (v2l : 1 ≤ v2.toInt) (v2h : v2.toInt ≤ 12) (v3l : 1 ≤ v3.toInt) (v3h : v3.toInt ≤ 12) (hr9 : ∀ (v2' : Int32) (v3' : Int32) (sg' : Sg), StC MX10_trace s0 sg' → 1 ≤ v2'.toInt → v2'.toInt ≤ 12 → 1 ≤ v3'.toInt → v3'.toInt ≤ 12 → v3.toInt < v3'.toInt → Ok (PVC MX10_trace s0) (r9 (v2', v3', sg'))) : Ok (PVC MX10_trace s0) (fX10_trace_9 r9 v2 v3 sg) := by
  unfold fX10_trace_9
  refine ok_ite (fun c1 => ?_) (fun c1 => ?_)
  · replace c1 := i_le.mp c1
    exact ok_some (mkPVC hS)
  · replace c1 := i_nle.mp c1
    refine ok_lt (fun x2 ex2 => ?_)
    replace ex2 : x2.toInt = v3.toInt - 1 := by rw [ex2]; exact sub_c 1 (by decide) (by omega) (by omega)
    refine ok_gin (by omega) (by omega) ?_
    have f2 := rdC44 hS.1.1 (j := x2.toNatClampNeg)
    refine ok_lt (fun x4 ex4 => ?_)
    replace ex4 := congrArg Int32.toInt ex4
    refine ok_gin (by omega) (by omega) ?_
    have f3 := sub_i (a := v2) (b := v3) (by omega) (by omega)
    refine ok_lt (fun x6 ex6 => ?_)
    replace ex6 := congrArg Int32.toInt ex6
    refine ok_gin (by omega) (by omega) ?_
    have f4 := rdC41 hS.1.1 (j := x4.toNatClampNeg)
    have f5 := rdC43 hS.1.1 (j := x6.toNatClampNeg)
    have f6 := and_l (a := (sg 41 x4.toNatClampNeg)) (b := (sg 43 x6.toNatClampNeg)) (by omega)
    have f7 := and_r (a := (sg 41 x4.toNatClampNeg)) (b := (sg 43 x6.toNatClampNeg)) (by omega)
    refine ok_lt (fun x8 ex8 => ?_)
    replace ex8 := congrArg Int32.toInt ex8
    refine bnd2_puC (sX10_leastOf (v0 := x8) hS.1 (by omega) (by omega)) (fun y9 qy9 zy9 => ?_)
    refine ok_gin (by omega) (by omega) ?_
    refine ok_lt (fun sg13 esg13 => ?_)
    have hS8 := upC44 hS (by decide) esg13 (by omega) (by omega)
    refine ok_lt (fun x14 ex14 => ?_)
    replace ex14 : x14.toInt = v3.toInt + 1 := by rw [ex14]; exact add_c 1 (by decide) (by omega) (by omega)
    exact hr9 v2 x14 sg13 hS8 (by omega) (by omega) (by omega) (by omega) (by omega)
set_option maxHeartbeats 4000000 in
theorem sLX10_trace_9 {s0 : Sg} {v2 : Int32} {v3 : Int32} {sg : Sg} (hS : StC MX10_trace s0 sg) (v2l : 1 ≤ v2.toInt) (v2h : v2.toInt ≤ 12) (v3l : 1 ≤ v3.toInt) (v3h : v3.toInt ≤ 12) : Ok (PVC MX10_trace s0) (LX10_trace_9 (v2, v3, sg)) := by
  unfold LX10_trace_9
  refine ok_loop (I := fun (z : Int32 × Int32 × Sg) => StC MX10_trace s0 z.2.2 ∧ 1 ≤ z.1.toInt ∧ z.1.toInt ≤ 12 ∧ 1 ≤ z.2.1.toInt ∧ z.2.1.toInt ≤ 12) (m := fun (z : Int32 × Int32 × Sg) => (13 - z.2.1.toInt).toNat) _ ?_ ?_ _ ?_
  · intro z hz
    obtain ⟨h0, h1, h2, h3, h4⟩ := hz
    show (13 - z.2.1.toInt).toNat < 10000
    omega
  · intro rec z hz hrec
    obtain ⟨v2, v3, sg⟩ := z
    replace hz : StC MX10_trace s0 sg ∧ 1 ≤ v2.toInt ∧ v2.toInt ≤ 12 ∧ 1 ≤ v3.toInt ∧ v3.toInt ≤ 12 := hz
    obtain ⟨h0, h1, h2, h3, h4⟩ := hz
    show Ok (PVC MX10_trace s0) (fX10_trace_9 rec v2 v3 sg)
    exact sX10_trace_9 h0 h1 h2 h3 h4 (fun v2' v3' sg' g0 g1 g2 g3 g4 g5 => hrec (v2', v3', sg') ⟨g0, g1, g2, g3, g4⟩ (show (13 - v3'.toInt).toNat < (13 - v3.toInt).toNat by omega))
  · exact ⟨hS, v2l, v2h, v3l, v3h⟩
set_option maxHeartbeats 4000000 in
theorem sX10_trace {v1 : Int32} {v2 : Int32} {sg : Sg} (hI : IC sg) (v1l : 0 ≤ v1.toInt) (v1h : v1.toInt ≤ 11) (v2l : 1 ≤ v2.toInt) (v2h : v2.toInt ≤ 12) : Ok (PVC MX10_trace sg) (fX10_trace v1 v2 sg) := by
  have hS : StC MX10_trace sg sg := StC.rf hI
  unfold fX10_trace
  have k1 : (0 : Int32).toInt = 0 := by decide
  refine ok_gin (by omega) (by omega) ?_
  refine ok_lt (fun sg2 esg2 => ?_)
  have hS2 := upC44 hS (by decide) esg2 (by omega) (by omega)
  have k3 : (1 : Int32).toInt = 1 := by decide
  exact sLX10_trace_9 hS2 (by omega) (by omega) (by omega) (by omega)
set_option maxHeartbeats 4000000 in
theorem sX10_findShortest_56 {s0 : Sg} {r4 : (Int32 × Int32 × Sg) → Option (Int32 × Sg)} {v1 : Int32} {v2 : Int32} {sg : Sg} (hS : StC MX10_findShortest s0 sg) (v1l : 0 ≤ v1.toInt) (v1h : v1.toInt ≤ 12) (v2l : 0 ≤ v2.toInt) (v2h : v2.toInt ≤ 11) (hr4 : ∀ (v1' : Int32) (v2' : Int32) (sg' : Sg), StC MX10_findShortest s0 sg' → 0 ≤ v1'.toInt → v1'.toInt ≤ 12 → 0 ≤ v2'.toInt → v2'.toInt ≤ 12 → v2.toInt < v2'.toInt → Ok (PIC MX10_findShortest s0 0 12) (r4 (v1', v2', sg'))) : Ok (PIC MX10_findShortest s0 0 12) (fX10_findShortest_56 r4 v1 v2 sg) := by
  unfold fX10_findShortest_56
  refine ok_lt (fun x1 ex1 => ?_)
  replace ex1 : x1.toInt = v2.toInt + 1 := by rw [ex1]; exact add_c 1 (by decide) (by omega) (by omega)
  exact hr4 v1 x1 sg hS (by omega) (by omega) (by omega) (by omega) (by omega)
set_option maxHeartbeats 4000000 in
theorem sX10_findShortest_32 {s0 : Sg} {r4 : (Int32 × Int32 × Sg) → Option (Int32 × Sg)} {v1 : Int32} {v2 : Int32} {w0 : Int32} {sg : Sg} (hS : StC MX10_findShortest s0 sg) (v1l : 0 ≤ v1.toInt) (v1h : v1.toInt ≤ 12) (v2l : 0 ≤ v2.toInt) (v2h : v2.toInt ≤ 11) (w0l : 1 ≤ w0.toInt) (w0h : w0.toInt ≤ 13) (hr4 : ∀ (v1' : Int32) (v2' : Int32) (sg' : Sg), StC MX10_findShortest s0 sg' → 0 ≤ v1'.toInt → v1'.toInt ≤ 12 → 0 ≤ v2'.toInt → v2'.toInt ≤ 12 → v2.toInt < v2'.toInt → Ok (PIC MX10_findShortest s0 0 12) (r4 (v1', v2', sg'))) : Ok (PIC MX10_findShortest s0 0 12) (fX10_findShortest_32 r4 v1 v2 w0 sg) := by
  unfold fX10_findShortest_32
  refine bnd2_piC (sX10_lengthFrom (v1 := v2) (v2 := w0) hS.1 (by omega) (by omega) (by omega) (by omega)) (fun y1 sg2 hsg2 qy1 zy1 => ?_)
  have hS1 := hS.tr hsg2 (by decide)
  refine ok_ite (fun c2 => ?_) (fun c2 => ?_)
  · have k3 : (0 : Int32).toInt = 0 := by decide
    replace c2 := i_le.mp c2
    exact sX10_findShortest_56 hS1 (by omega) (by omega) (by omega) (by omega) hr4
  · have k4 : (0 : Int32).toInt = 0 := by decide
    replace c2 := i_nle.mp c2
    refine bnd1_pvC (sX10_trace (v1 := v2) (v2 := y1) hS1.1 (by omega) (by omega) (by omega) (by omega)) (fun sg5 hsg5 => ?_)
    have hS5 := hS1.tr hsg5 (by decide)
    exact sX10_findShortest_56 hS5 (by omega) (by omega) (by omega) (by omega) hr4
set_option maxHeartbeats 4000000 in
theorem sX10_findShortest_4 {s0 : Sg} {r4 : (Int32 × Int32 × Sg) → Option (Int32 × Sg)} {v1 : Int32} {v2 : Int32} {sg : Sg} (hS : StC MX10_findShortest s0 sg) (v1l : 0 ≤ v1.toInt) (v1h : v1.toInt ≤ 12) (v2l : 0 ≤ v2.toInt) (v2h : v2.toInt ≤ 12) (hr4 : ∀ (v1' : Int32) (v2' : Int32) (sg' : Sg), StC MX10_findShortest s0 sg' → 0 ≤ v1'.toInt → v1'.toInt ≤ 12 → 0 ≤ v2'.toInt → v2'.toInt ≤ 12 → v2.toInt < v2'.toInt → Ok (PIC MX10_findShortest s0 0 12) (r4 (v1', v2', sg'))) : Ok (PIC MX10_findShortest s0 0 12) (fX10_findShortest_4 r4 v1 v2 sg) := by
  unfold fX10_findShortest_4
  refine ok_ite (fun c1 => ?_) (fun c1 => ?_)
  · have f2 := rdC3_2 hS.1.1
    replace c1 := i_le.mp c1
    exact ok_some (mkPIC hS (by omega) (by omega))
  · have f3 := rdC3_2 hS.1.1
    replace c1 := i_nle.mp c1
    refine ok_ite (fun c4 => ?_) (fun c4 => ?_)
    · have k5 : (0 : Int32).toInt = 0 := by decide
      replace c4 := i_eq.mp c4
      have k6 : (1 : Int32).toInt = 1 := by decide
      have f7 := add_i (a := (sg 3 2)) (b := (1 : Int32)) (by omega) (by omega)
      exact sX10_findShortest_32 hS (by omega) (by omega) (by omega) (by omega) (by omega) (by omega) hr4
    · have k8 : (0 : Int32).toInt = 0 := by decide
      replace c4 := i_ne.mp c4
      exact sX10_findShortest_32 hS (by omega) (by omega) (by omega) (by omega) (by omega) (by omega) hr4
set_option maxHeartbeats 4000000 in
theorem sLX10_findShortest_4 {s0 : Sg} {v1 : Int32} {v2 : Int32} {sg : Sg} (hS : StC MX10_findShortest s0 sg) (v1l : 0 ≤ v1.toInt) (v1h : v1.toInt ≤ 12) (v2l : 0 ≤ v2.toInt) (v2h : v2.toInt ≤ 12) : Ok (PIC MX10_findShortest s0 0 12) (LX10_findShortest_4 (v1, v2, sg)) := by
  unfold LX10_findShortest_4
  refine ok_loop (I := fun (z : Int32 × Int32 × Sg) => StC MX10_findShortest s0 z.2.2 ∧ 0 ≤ z.1.toInt ∧ z.1.toInt ≤ 12 ∧ 0 ≤ z.2.1.toInt ∧ z.2.1.toInt ≤ 12) (m := fun (z : Int32 × Int32 × Sg) => (13 - z.2.1.toInt).toNat) _ ?_ ?_ _ ?_
  · intro z hz
    obtain ⟨h0, h1, h2, h3, h4⟩ := hz
    show (13 - z.2.1.toInt).toNat < 10000
    omega
  · intro rec z hz hrec
    obtain ⟨v1, v2, sg⟩ := z
    replace hz : StC MX10_findShortest s0 sg ∧ 0 ≤ v1.toInt ∧ v1.toInt ≤ 12 ∧ 0 ≤ v2.toInt ∧ v2.toInt ≤ 12 := hz
    obtain ⟨h0, h1, h2, h3, h4⟩ := hz
    show Ok (PIC MX10_findShortest s0 0 12) (fX10_findShortest_4 rec v1 v2 sg)
    exact sX10_findShortest_4 h0 h1 h2 h3 h4 (fun v1' v2' sg' g0 g1 g2 g3 g4 g5 => hrec (v1', v2', sg') ⟨g0, g1, g2, g3, g4⟩ (show (13 - v2'.toInt).toNat < (13 - v2.toInt).toNat by omega))
  · exact ⟨hS, v1l, v1h, v2l, v2h⟩
set_option maxHeartbeats 4000000 in
theorem sX10_findShortest {sg : Sg} (hI : IC sg) : Ok (PIC MX10_findShortest sg 0 12) (fX10_findShortest sg) := by
  have hS : StC MX10_findShortest sg sg := StC.rf hI
  unfold fX10_findShortest
  have k1 : (0 : Int32).toInt = 0 := by decide
  exact sLX10_findShortest_4 hS (by omega) (by omega) (by omega) (by omega)
set_option maxHeartbeats 4000000 in
theorem sX10_foundPeck_14 {v1 : Int32} {w0 : Int32} {sg : Sg} (hI : IC sg) (v1l : 0 ≤ v1.toInt) (v1h : v1.toInt ≤ 11) (w0l : 0 ≤ w0.toInt) (w0h : w0.toInt ≤ 11) : Ok (PUC sg 0 143) (fX10_foundPeck_14 v1 w0 sg) := by
  unfold fX10_foundPeck_14
  refine ok_gin (by omega) (by omega) ?_
  refine ok_gin (by omega) (by omega) ?_
  have f1 := rdC44 hI.1 (j := v1.toNatClampNeg)
  have k2 : (12 : Int32).toInt = 12 := by decide
  have f3 := mul_r (a := (sg 44 v1.toNatClampNeg)) (b := (12 : Int32)) 12 (by decide) (by omega) (by omega)
  have f4 := rdC44 hI.1 (j := w0.toNatClampNeg)
  have f5 := add_i (a := ((sg 44 v1.toNatClampNeg) * (12 : Int32))) (b := (sg 44 w0.toNatClampNeg)) (by omega) (by omega)
  exact ok_some (mkPUC (by omega) (by omega))
set_option maxHeartbeats 4000000 in
theorem sX10_foundPeck {v1 : Int32} {v2 : Int32} {sg : Sg} (hI : IC sg) (v1l : 0 ≤ v1.toInt) (v1h : v1.toInt ≤ 11) (v2l : 1 ≤ v2.toInt) (v2h : v2.toInt ≤ 12) : Ok (PUC sg 0 143) (fX10_foundPeck v1 v2 sg) := by
  unfold fX10_foundPeck
  refine ok_ite (fun c1 => ?_) (fun c1 => ?_)
  · have k2 : (1 : Int32).toInt = 1 := by decide
    have f3 := add_i (a := v1) (b := (1 : Int32)) (by omega) (by omega)
    replace c1 := i_le.mp c1
    have k4 : (0 : Int32).toInt = 0 := by decide
    exact sX10_foundPeck_14 hI (by omega) (by omega) (by omega) (by omega)
  · have k5 : (1 : Int32).toInt = 1 := by decide
    have f6 := add_i (a := v1) (b := (1 : Int32)) (by omega) (by omega)
    replace c1 := i_nle.mp c1
    exact sX10_foundPeck_14 hI (by omega) (by omega) (by omega) (by omega)
set_option maxHeartbeats 4000000 in
theorem sX10_useUp_112 {s0 : Sg} {r34 : (Int32 × Int32 × Int32 × Sg) → Option (Int32 × Sg)} {v1 : Int32} {v2 : Int32} {v3 : Int32} {sg : Sg} (hS : StC MX10_useUp s0 sg) (v1l : 1 ≤ v1.toInt) (v1h : v1.toInt ≤ 12) (v2h : v2.toInt ≤ 1000000) (v3l : 0 ≤ v3.toInt) (v3h : v3.toInt ≤ 11) (hr34 : ∀ (v1' : Int32) (v2' : Int32) (v3' : Int32) (sg' : Sg), StC MX10_useUp s0 sg' → 1 ≤ v1'.toInt → v1'.toInt ≤ 12 → v2'.toInt ≤ 1000000 → 0 ≤ v3'.toInt → v3'.toInt ≤ 12 → v3.toInt < v3'.toInt → Ok (PIC MX10_useUp s0 (-2147483648) 1000000) (r34 (v1', v2', v3', sg'))) : Ok (PIC MX10_useUp s0 (-2147483648) 1000000) (fX10_useUp_112 r34 v1 v2 v3 sg) := by
  have w1 := lo32 v2
  unfold fX10_useUp_112
  refine ok_lt (fun x1 ex1 => ?_)
  replace ex1 : x1.toInt = v3.toInt + 1 := by rw [ex1]; exact add_c 1 (by decide) (by omega) (by omega)
  exact hr34 v1 v2 x1 sg hS (by omega) (by omega) (by omega) (by omega) (by omega) (by omega)
set_option maxHeartbeats 4000000 in
theorem sX10_useUp_34 {s0 : Sg} {r34 : (Int32 × Int32 × Int32 × Sg) → Option (Int32 × Sg)} {v1 : Int32} {v2 : Int32} {v3 : Int32} {sg : Sg} (hS : StC MX10_useUp s0 sg) (v1l : 1 ≤ v1.toInt) (v1h : v1.toInt ≤ 12) (v2h : v2.toInt ≤ 1000000) (v3l : 0 ≤ v3.toInt) (v3h : v3.toInt ≤ 12) (hr34 : ∀ (v1' : Int32) (v2' : Int32) (v3' : Int32) (sg' : Sg), StC MX10_useUp s0 sg' → 1 ≤ v1'.toInt → v1'.toInt ≤ 12 → v2'.toInt ≤ 1000000 → 0 ≤ v3'.toInt → v3'.toInt ≤ 12 → v3.toInt < v3'.toInt → Ok (PIC MX10_useUp s0 (-2147483648) 1000000) (r34 (v1', v2', v3', sg'))) : Ok (PIC MX10_useUp s0 (-2147483648) 1000000) (fX10_useUp_34 r34 v1 v2 v3 sg) := by
  have w1 := lo32 v2
  unfold fX10_useUp_34
  refine ok_ite (fun c2 => ?_) (fun c2 => ?_)
  · replace c2 := i_le.mp c2
    exact ok_some (mkPIC hS (lo32 _) (by omega))
  · replace c2 := i_nle.mp c2
    refine bnd2_puC (sX10_foundPeck (v1 := v3) (v2 := v1) hS.1 (by omega) (by omega) (by omega) (by omega)) (fun y2 qy2 zy2 => ?_)
    refine ok_gin (by omega) (by omega) ?_
    refine ok_lt (fun x6 ex6 => ?_)
    replace ex6 := congrArg Int32.toInt ex6
    refine ok_gin (by omega) (by omega) ?_
    refine ok_lt (fun sg8 esg8 => ?_)
    have hS3 := upC40 hS (by decide) esg8
    refine ok_gin (by omega) (by omega) ?_
    refine ok_ite (fun c4 => ?_) (fun c4 => ?_)
    · have k5 : (0 : Int32).toInt = 0 := by decide
      replace c4 := i_eq.mp c4
      have f6 := div_i (a := y2) (b := (12 : Int32)) 12 (by decide) (by decide) (by omega)
      refine ok_lt (fun x11 ex11 => ?_)
      replace ex11 := congrArg Int32.toInt ex11
      refine ok_gin (by omega) (by omega) ?_
      have f7 := rdC41 hS3.1.1 (j := x11.toNatClampNeg)
      have f8 := and_l (a := (sg8 41 x11.toNatClampNeg)) (b := (((1 : Int32) <<< ((y2 - ((y2 / (12 : Int32)) * (12 : Int32))) &&& 31)) ^^^ (-1 : Int32))) (by omega)
      refine ok_lt (fun x13 ex13 => ?_)
      replace ex13 := congrArg Int32.toInt ex13
      refine ok_gin (by omega) (by omega) ?_
      refine ok_lt (fun sg15 esg15 => ?_)
      have hS9 := upC41 hS3 (by decide) esg15 (by omega) (by omega)
      have k10 : (12 : Int32).toInt = 12 := by decide
      have f11 := mul_r (a := (y2 / (12 : Int32))) (b := (12 : Int32)) 12 (by decide) (by omega) (by omega)
      have f12 := sub_i (a := y2) (b := ((y2 / (12 : Int32)) * (12 : Int32))) (by omega) (by omega)
      refine ok_lt (fun x16 ex16 => ?_)
      replace ex16 := congrArg Int32.toInt ex16
      refine ok_gin (by omega) (by omega) ?_
      have f13 := rdC42 hS9.1.1 (j := x16.toNatClampNeg)
      have f14 := and_l (a := (sg15 42 x16.toNatClampNeg)) (b := (((1 : Int32) <<< ((y2 / (12 : Int32)) &&& 31)) ^^^ (-1 : Int32))) (by omega)
      refine ok_lt (fun x18 ex18 => ?_)
      replace ex18 := congrArg Int32.toInt ex18
      refine ok_gin (by omega) (by omega) ?_
      refine ok_lt (fun sg20 esg20 => ?_)
      have hS15 := upC42 hS9 (by decide) esg20 (by omega) (by omega)
      exact sX10_useUp_112 hS15 (by omega) (by omega) (by omega) (by omega) (by omega) hr34
    · have k16 : (0 : Int32).toInt = 0 := by decide
      replace c4 := i_ne.mp c4
      exact sX10_useUp_112 hS3 (by omega) (by omega) (by omega) (by omega) (by omega) hr34
set_option maxHeartbeats 4000000 in
theorem sLX10_useUp_34 {s0 : Sg} {v1 : Int32} {v2 : Int32} {v3 : Int32} {sg : Sg} (hS : StC MX10_useUp s0 sg) (v1l : 1 ≤ v1.toInt) (v1h : v1.toInt ≤ 12) (v2h : v2.toInt ≤ 1000000) (v3l : 0 ≤ v3.toInt) (v3h : v3.toInt ≤ 12) : Ok (PIC MX10_useUp s0 (-2147483648) 1000000) (LX10_useUp_34 (v1, v2, v3, sg)) := by
  unfold LX10_useUp_34
  refine ok_loop (I := fun (z : Int32 × Int32 × Int32 × Sg) => StC MX10_useUp s0 z.2.2.2 ∧ 1 ≤ z.1.toInt ∧ z.1.toInt ≤ 12 ∧ z.2.1.toInt ≤ 1000000 ∧ 0 ≤ z.2.2.1.toInt ∧ z.2.2.1.toInt ≤ 12) (m := fun (z : Int32 × Int32 × Int32 × Sg) => (13 - z.2.2.1.toInt).toNat) _ ?_ ?_ _ ?_
  · intro z hz
    obtain ⟨h0, h1, h2, h3, h4, h5⟩ := hz
    show (13 - z.2.2.1.toInt).toNat < 10000
    omega
  · intro rec z hz hrec
    obtain ⟨v1, v2, v3, sg⟩ := z
    replace hz : StC MX10_useUp s0 sg ∧ 1 ≤ v1.toInt ∧ v1.toInt ≤ 12 ∧ v2.toInt ≤ 1000000 ∧ 0 ≤ v3.toInt ∧ v3.toInt ≤ 12 := hz
    obtain ⟨h0, h1, h2, h3, h4, h5⟩ := hz
    show Ok (PIC MX10_useUp s0 (-2147483648) 1000000) (fX10_useUp_34 rec v1 v2 v3 sg)
    exact sX10_useUp_34 h0 h1 h2 h3 h4 h5 (fun v1' v2' v3' sg' g0 g1 g2 g3 g4 g5 g6 => hrec (v1', v2', v3', sg') ⟨g0, g1, g2, g3, g4, g5⟩ (show (13 - v3'.toInt).toNat < (13 - v3.toInt).toNat by omega))
  · exact ⟨hS, v1l, v1h, v2h, v3l, v3h⟩
set_option maxHeartbeats 4000000 in
theorem sX10_useUp_5 {s0 : Sg} {r5 : (Int32 × Int32 × Int32 × Sg) → Option (Int32 × Sg)} {v1 : Int32} {v2 : Int32} {v3 : Int32} {sg : Sg} (hS : StC MX10_useUp s0 sg) (v1l : 1 ≤ v1.toInt) (v1h : v1.toInt ≤ 12) (v2h : v2.toInt ≤ 1000000) (v3l : 0 ≤ v3.toInt) (v3h : v3.toInt ≤ 12) (hr5 : ∀ (v1' : Int32) (v2' : Int32) (v3' : Int32) (sg' : Sg), StC MX10_useUp s0 sg' → 1 ≤ v1'.toInt → v1'.toInt ≤ 12 → v2'.toInt ≤ 1000000 → 0 ≤ v3'.toInt → v3'.toInt ≤ 12 → v3.toInt < v3'.toInt → Ok (PIC MX10_useUp s0 (-2147483648) 1000000) (r5 (v1', v2', v3', sg'))) : Ok (PIC MX10_useUp s0 (-2147483648) 1000000) (fX10_useUp_5 r5 v1 v2 v3 sg) := by
  have w1 := lo32 v2
  unfold fX10_useUp_5
  refine ok_ite (fun c2 => ?_) (fun c2 => ?_)
  · replace c2 := i_le.mp c2
    have k3 : (0 : Int32).toInt = 0 := by decide
    exact sLX10_useUp_34 hS (by omega) (by omega) (by omega) (by omega) (by omega)
  · replace c2 := i_nle.mp c2
    refine bnd2_puC (sX10_foundPeck (v1 := v3) (v2 := v1) hS.1 (by omega) (by omega) (by omega) (by omega)) (fun y2 qy2 zy2 => ?_)
    refine ok_gin (by omega) (by omega) ?_
    have f4 := ite_lt (a := (sg 40 y2.toNatClampNeg)) (b := v2) (x := (sg 40 y2.toNatClampNeg)) (y := v2)
    refine ok_lt (fun x6 ex6 => ?_)
    replace ex6 := congrArg Int32.toInt ex6
    refine ok_lt (fun x7 ex7 => ?_)
    replace ex7 : x7.toInt = v3.toInt + 1 := by rw [ex7]; exact add_c 1 (by decide) (by omega) (by omega)
    exact hr5 v1 x6 x7 sg hS (by omega) (by omega) (by omega) (by omega) (by omega) (by omega)
set_option maxHeartbeats 4000000 in
theorem sLX10_useUp_5 {s0 : Sg} {v1 : Int32} {v2 : Int32} {v3 : Int32} {sg : Sg} (hS : StC MX10_useUp s0 sg) (v1l : 1 ≤ v1.toInt) (v1h : v1.toInt ≤ 12) (v2h : v2.toInt ≤ 1000000) (v3l : 0 ≤ v3.toInt) (v3h : v3.toInt ≤ 12) : Ok (PIC MX10_useUp s0 (-2147483648) 1000000) (LX10_useUp_5 (v1, v2, v3, sg)) := by
  unfold LX10_useUp_5
  refine ok_loop (I := fun (z : Int32 × Int32 × Int32 × Sg) => StC MX10_useUp s0 z.2.2.2 ∧ 1 ≤ z.1.toInt ∧ z.1.toInt ≤ 12 ∧ z.2.1.toInt ≤ 1000000 ∧ 0 ≤ z.2.2.1.toInt ∧ z.2.2.1.toInt ≤ 12) (m := fun (z : Int32 × Int32 × Int32 × Sg) => (13 - z.2.2.1.toInt).toNat) _ ?_ ?_ _ ?_
  · intro z hz
    obtain ⟨h0, h1, h2, h3, h4, h5⟩ := hz
    show (13 - z.2.2.1.toInt).toNat < 10000
    omega
  · intro rec z hz hrec
    obtain ⟨v1, v2, v3, sg⟩ := z
    replace hz : StC MX10_useUp s0 sg ∧ 1 ≤ v1.toInt ∧ v1.toInt ≤ 12 ∧ v2.toInt ≤ 1000000 ∧ 0 ≤ v3.toInt ∧ v3.toInt ≤ 12 := hz
    obtain ⟨h0, h1, h2, h3, h4, h5⟩ := hz
    show Ok (PIC MX10_useUp s0 (-2147483648) 1000000) (fX10_useUp_5 rec v1 v2 v3 sg)
    exact sX10_useUp_5 h0 h1 h2 h3 h4 h5 (fun v1' v2' v3' sg' g0 g1 g2 g3 g4 g5 g6 => hrec (v1', v2', v3', sg') ⟨g0, g1, g2, g3, g4, g5⟩ (show (13 - v3'.toInt).toNat < (13 - v3.toInt).toNat by omega))
  · exact ⟨hS, v1l, v1h, v2h, v3l, v3h⟩
set_option maxHeartbeats 4000000 in
theorem sX10_useUp {v1 : Int32} {sg : Sg} (hI : IC sg) (v1l : 1 ≤ v1.toInt) (v1h : v1.toInt ≤ 12) : Ok (PIC MX10_useUp sg (-2147483648) 1000000) (fX10_useUp v1 sg) := by
  have hS : StC MX10_useUp sg sg := StC.rf hI
  unfold fX10_useUp
  have k1 : (1000000 : Int32).toInt = 1000000 := by decide
  have k2 : (0 : Int32).toInt = 0 := by decide
  exact sLX10_useUp_5 hS (by omega) (by omega) (by omega) (by omega) (by omega)
set_option maxHeartbeats 4000000 in
theorem sX10_keepFound_22 {s0 : Sg} {r22 : (Int32 × Int32 × Sg) → Option (Sg)} {v1 : Int32} {v3 : Int32} {sg : Sg} (hS : StC MX10_keepFound s0 sg) (v1l : 1 ≤ v1.toInt) (v1h : v1.toInt ≤ 12) (v3l : 0 ≤ v3.toInt) (v3h : v3.toInt ≤ 12) (xs : (sg 8 1).toInt = (s0 8 1).toInt) (xt : (sg 8 1).toInt ≤ 131) (hr22 : ∀ (v1' : Int32) (v3' : Int32) (sg' : Sg), StC MX10_keepFound s0 sg' → 1 ≤ v1'.toInt → v1'.toInt ≤ 12 → 0 ≤ v3'.toInt → v3'.toInt ≤ 12 → ((sg' 8 1).toInt = (s0 8 1).toInt) → ((sg' 8 1).toInt ≤ 131) → v3.toInt < v3'.toInt → Ok (PVXC MX10_keepFound s0 (fun r => (r 8 1).toInt = (s0 8 1).toInt + 1)) (r22 (v1', v3', sg'))) : Ok (PVXC MX10_keepFound s0 (fun r => (r 8 1).toInt = (s0 8 1).toInt + 1)) (fX10_keepFound_22 r22 v1 v3 sg) := by
  unfold fX10_keepFound_22
  refine ok_ite (fun c1 => ?_) (fun c1 => ?_)
  · replace c1 := i_le.mp c1
    have f2 := rdC8_1 hS.1.1
    refine ok_lt (fun x2 ex2 => ?_)
    replace ex2 : x2.toInt = (sg 8 1).toInt + 1 := by rw [ex2]; exact add_c 1 (by decide) (by omega) (by omega)
    refine ok_lt (fun sg3 esg3 => ?_)
    have hS3 := upC8_1 hS (by decide) esg3 (by omega) (by omega)
    have e4 : (sg3 8 1).toInt = x2.toInt := by rw [esg3]; rfl
    exact ok_some (mkPVXC hS3 (show (sg3 8 1).toInt = (s0 8 1).toInt + 1 by omega))
  · replace c1 := i_nle.mp c1
    refine ok_gin (by omega) (by omega) ?_
    have f5 := rdC44 hS.1.1 (j := v3.toNatClampNeg)
    refine ok_lt (fun x5 ex5 => ?_)
    replace ex5 := congrArg Int32.toInt ex5
    refine ok_gin (by omega) (by omega) ?_
    have f6 := rdC17 hS.1.1 (j := x5.toNatClampNeg)
    refine ok_lt (fun x7 ex7 => ?_)
    replace ex7 := congrArg Int32.toInt ex7
    have f7 := rdC8_1 hS.1.1
    have k8 : (12 : Int32).toInt = 12 := by decide
    have f9 := mul_r (a := (sg 8 1)) (b := (12 : Int32)) 12 (by decide) (by omega) (by omega)
    have f10 := add_i (a := ((sg 8 1) * (12 : Int32))) (b := v3) (by omega) (by omega)
    refine ok_gin (by omega) (by omega) ?_
    refine ok_lt (fun sg9 esg9 => ?_)
    have hS11 := upC39 hS (by decide) esg9 (by omega) (by omega)
    have e12 : (sg9 8 1).toInt = (sg 8 1).toInt := by rw [esg9]; rfl
    refine ok_lt (fun x10 ex10 => ?_)
    replace ex10 : x10.toInt = v3.toInt + 1 := by rw [ex10]; exact add_c 1 (by decide) (by omega) (by omega)
    exact hr22 v1 x10 sg9 hS11 (by omega) (by omega) (by omega) (by omega) (by omega) (by omega) (by omega)
set_option maxHeartbeats 4000000 in
theorem sLX10_keepFound_22 {s0 : Sg} {v1 : Int32} {v3 : Int32} {sg : Sg} (hS : StC MX10_keepFound s0 sg) (v1l : 1 ≤ v1.toInt) (v1h : v1.toInt ≤ 12) (v3l : 0 ≤ v3.toInt) (v3h : v3.toInt ≤ 12) (xs : ((sg 8 1).toInt = (s0 8 1).toInt)) (xt : ((sg 8 1).toInt ≤ 131)) : Ok (PVXC MX10_keepFound s0 (fun r => (r 8 1).toInt = (s0 8 1).toInt + 1)) (LX10_keepFound_22 (v1, v3, sg)) := by
  unfold LX10_keepFound_22
  refine ok_loop (I := fun (z : Int32 × Int32 × Sg) => StC MX10_keepFound s0 z.2.2 ∧ 1 ≤ z.1.toInt ∧ z.1.toInt ≤ 12 ∧ 0 ≤ z.2.1.toInt ∧ z.2.1.toInt ≤ 12 ∧ ((z.2.2 8 1).toInt = (s0 8 1).toInt) ∧ ((z.2.2 8 1).toInt ≤ 131)) (m := fun (z : Int32 × Int32 × Sg) => (13 - z.2.1.toInt).toNat) _ ?_ ?_ _ ?_
  · intro z hz
    obtain ⟨h0, h1, h2, h3, h4, h5, h6⟩ := hz
    show (13 - z.2.1.toInt).toNat < 10000
    omega
  · intro rec z hz hrec
    obtain ⟨v1, v3, sg⟩ := z
    replace hz : StC MX10_keepFound s0 sg ∧ 1 ≤ v1.toInt ∧ v1.toInt ≤ 12 ∧ 0 ≤ v3.toInt ∧ v3.toInt ≤ 12 ∧ ((sg 8 1).toInt = (s0 8 1).toInt) ∧ ((sg 8 1).toInt ≤ 131) := hz
    obtain ⟨h0, h1, h2, h3, h4, h5, h6⟩ := hz
    show Ok (PVXC MX10_keepFound s0 (fun r => (r 8 1).toInt = (s0 8 1).toInt + 1)) (fX10_keepFound_22 rec v1 v3 sg)
    exact sX10_keepFound_22 h0 h1 h2 h3 h4 h5 h6 (fun v1' v3' sg' g0 g1 g2 g3 g4 g5 g6 g7 => hrec (v1', v3', sg') ⟨g0, g1, g2, g3, g4, g5, g6⟩ (show (13 - v3'.toInt).toNat < (13 - v3.toInt).toNat by omega))
  · exact ⟨hS, v1l, v1h, v3l, v3h, xs, xt⟩
set_option maxHeartbeats 4000000 in
theorem sX10_keepFound {v1 : Int32} {v2 : Int32} {sg : Sg} (hI : IC sg) (v1l : 1 ≤ v1.toInt) (v1h : v1.toInt ≤ 12) (v2h : v2.toInt ≤ 1000000) (xs : (sg 8 1).toInt ≤ 131) : Ok (PVXC MX10_keepFound sg (fun r => (r 8 1).toInt = (sg 8 1).toInt + 1)) (fX10_keepFound v1 v2 sg) := by
  have hS : StC MX10_keepFound sg sg := StC.rf hI
  have w1 := lo32 v2
  unfold fX10_keepFound
  have f2 := rdC8_1 hS.1.1
  refine ok_gin (by omega) (by omega) ?_
  refine ok_lt (fun sg2 esg2 => ?_)
  have hS3 := upC37 hS (by decide) esg2
  have e4 : (sg2 8 1).toInt = (sg 8 1).toInt := by rw [esg2]; rfl
  have f5 := rdC8_1 hS3.1.1
  refine ok_gin (by omega) (by omega) ?_
  refine ok_lt (fun sg4 esg4 => ?_)
  have hS6 := upC38 hS3 (by decide) esg4 (by omega) (by omega)
  have e7 : (sg4 8 1).toInt = (sg2 8 1).toInt := by rw [esg4]; rfl
  have k8 : (0 : Int32).toInt = 0 := by decide
  exact sLX10_keepFound_22 hS6 (by omega) (by omega) (by omega) (by omega) (by omega) (by omega)
set_option maxHeartbeats 4000000 in
theorem sX10_packAll_20 {s0 : Sg} {r20 : (Int64 × Int32 × Sg) → Option (Int64 × Sg)} {v1 : Int64} {v3 : Int32} {sg : Sg} (hS : StC MX10_packAll s0 sg) (v3l : 0 ≤ v3.toInt) (v3h : v3.toInt ≤ 132) (xs : (sg 8 1).toInt ≤ v3.toInt) (hr20 : ∀ (v1' : Int64) (v3' : Int32) (sg' : Sg), StC MX10_packAll s0 sg' → 0 ≤ v3'.toInt → v3'.toInt ≤ 132 → ((sg' 8 1).toInt ≤ v3'.toInt) → v3.toInt < v3'.toInt → Ok (PLC MX10_packAll s0) (r20 (v1', v3', sg'))) : Ok (PLC MX10_packAll s0) (fX10_packAll_20 r20 v1 v3 sg) := by
  unfold fX10_packAll_20
  refine ok_ite (fun c1 => ?_) (fun c1 => ?_)
  · have k2 : (132 : Int32).toInt = 132 := by decide
    replace c1 := i_le.mp c1
    exact ok_some (mkPLC hS)
  · have k3 : (132 : Int32).toInt = 132 := by decide
    replace c1 := i_nle.mp c1
    refine bnd2_piC (sX10_findShortest  hS.1) (fun y2 sg3 hsg3 qy2 zy2 => ?_)
    have e4 : (sg3 8 1).toInt = (sg 8 1).toInt := congrArg Int32.toInt (congrFun (hsg3.fr 8 (by decide)) _)
    have hS5 := hS.tr hsg3 (by decide)
    refine ok_ite (fun c6 => ?_) (fun c6 => ?_)
    · have k7 : (0 : Int32).toInt = 0 := by decide
      replace c6 := i_eq.mp c6
      exact ok_some (mkPLC hS5)
    · have k8 : (0 : Int32).toInt = 0 := by decide
      replace c6 := i_ne.mp c6
      refine bnd2_piC (sX10_useUp (v1 := y2) hS5.1 (by omega) (by omega)) (fun y6 sg7 hsg7 qy6 zy6 => ?_)
      have e9 : (sg7 8 1).toInt = (sg3 8 1).toInt := congrArg Int32.toInt (congrFun (hsg7.fr 8 (by decide)) _)
      have hS10 := hS5.tr hsg7 (by decide)
      refine bnd1_pvxC (sX10_keepFound (v1 := y2) (v2 := y6) hS10.1 (by omega) (by omega) (by omega) (by omega)) (fun sg9 hsg9 xsg9 => ?_)
      replace xsg9 : (sg9 8 1).toInt = (sg7 8 1).toInt + 1 := xsg9
      have hS11 := hS10.tr hsg9 (by decide)
      refine ok_lt (fun x11 ex11 => ?_)
      refine ok_lt (fun x12 ex12 => ?_)
      replace ex12 : x12.toInt = v3.toInt + 1 := by rw [ex12]; exact add_c 1 (by decide) (by omega) (by omega)
      exact hr20 x11 x12 sg9 hS11 (by omega) (by omega) (by omega) (by omega)
set_option maxHeartbeats 4000000 in
theorem sLX10_packAll_20 {s0 : Sg} {v1 : Int64} {v3 : Int32} {sg : Sg} (hS : StC MX10_packAll s0 sg) (v3l : 0 ≤ v3.toInt) (v3h : v3.toInt ≤ 132) (xs : ((sg 8 1).toInt ≤ v3.toInt)) : Ok (PLC MX10_packAll s0) (LX10_packAll_20 (v1, v3, sg)) := by
  unfold LX10_packAll_20
  refine ok_loop (I := fun (z : Int64 × Int32 × Sg) => StC MX10_packAll s0 z.2.2 ∧ 0 ≤ z.2.1.toInt ∧ z.2.1.toInt ≤ 132 ∧ ((z.2.2 8 1).toInt ≤ z.2.1.toInt)) (m := fun (z : Int64 × Int32 × Sg) => (133 - z.2.1.toInt).toNat) _ ?_ ?_ _ ?_
  · intro z hz
    obtain ⟨h0, h1, h2, h3⟩ := hz
    show (133 - z.2.1.toInt).toNat < 10000
    omega
  · intro rec z hz hrec
    obtain ⟨v1, v3, sg⟩ := z
    replace hz : StC MX10_packAll s0 sg ∧ 0 ≤ v3.toInt ∧ v3.toInt ≤ 132 ∧ ((sg 8 1).toInt ≤ v3.toInt) := hz
    obtain ⟨h0, h1, h2, h3⟩ := hz
    show Ok (PLC MX10_packAll s0) (fX10_packAll_20 rec v1 v3 sg)
    exact sX10_packAll_20 h0 h1 h2 h3 (fun v1' v3' sg' g0 g1 g2 g3 g4 => hrec (v1', v3', sg') ⟨g0, g1, g2, g3⟩ (show (133 - v3'.toInt).toNat < (133 - v3.toInt).toNat by omega))
  · exact ⟨hS, v3l, v3h, xs⟩
