set_option maxHeartbeats 4000000 in
theorem sX2_has {v1 : Int32} {sg : Sg} (hI : IC0 sg) : Ok (PXC sg 0 1 (fun (y : Int) => y = 0 ∨ (0 ≤ v1.toInt ∧ v1.toInt ≤ 11))) (fX2_has v1 sg) := by
  unfold fX2_has
  refine ok_ite (fun c1 => ?_) (fun c1 => ?_)
  · have k2 : (0 : Int32).toInt = 0 := by decide
    replace c1 := i_lt.mp c1
    exact ok_some (mkPXC (by omega) (by omega) (show (0 : Int32).toInt = 0 ∨ (0 ≤ v1.toInt ∧ v1.toInt ≤ 11) by omega))
  · have k3 : (0 : Int32).toInt = 0 := by decide
    replace c1 := i_nlt.mp c1
    refine ok_ite (fun c4 => ?_) (fun c4 => ?_)
    · have f5 := rdC1_0 hI
      replace c4 := i_le.mp c4
      exact ok_some (mkPXC (by omega) (by omega) (show (0 : Int32).toInt = 0 ∨ (0 ≤ v1.toInt ∧ v1.toInt ≤ 11) by omega))
    · have f6 := rdC1_0 hI
      replace c4 := i_nle.mp c4
      have k7 : (1 : Int32).toInt = 1 := by decide
      exact ok_some (mkPXC (by omega) (by omega) (show (1 : Int32).toInt = 0 ∨ (0 ≤ v1.toInt ∧ v1.toInt ≤ 11) by omega))
set_option maxHeartbeats 4000000 in
theorem sX2_isCounted {v1 : Int32} {sg : Sg} (hI : IC0 sg) : Ok (PXC sg 0 1 (fun (y : Int) => y = 0 ∨ (0 ≤ v1.toInt ∧ v1.toInt ≤ 11))) (fX2_isCounted v1 sg) := by
  unfold fX2_isCounted
  refine bnd2_pxC (sX2_has (v1 := v1) hI) (fun y1 qy1 zy1 xy1 => ?_)
  replace xy1 : y1.toInt = 0 ∨ (0 ≤ v1.toInt ∧ v1.toInt ≤ 11) := xy1
  refine ok_ite (fun c1 => ?_) (fun c1 => ?_)
  · have k2 : (0 : Int32).toInt = 0 := by decide
    replace c1 := i_eq.mp c1
    exact ok_some (mkPXC (by omega) (by omega) (show (0 : Int32).toInt = 0 ∨ (0 ≤ v1.toInt ∧ v1.toInt ≤ 11) by omega))
  · have k3 : (0 : Int32).toInt = 0 := by decide
    replace c1 := i_ne.mp c1
    refine ok_gin (by omega) (by omega) ?_
    refine ok_ite (fun c4 => ?_) (fun c4 => ?_)
    · have f5 := rdC11 hI (j := v1.toNatClampNeg)
      have k6 : (4 : Int32).toInt = 4 := by decide
      replace c4 := i_eq.mp c4
      refine ok_gin (by omega) (by omega) ?_
      refine ok_ite (fun c7 => ?_) (fun c7 => ?_)
      · have k8 : (1 : Int32).toInt = 1 := by decide
        replace c7 := i_eq.mp c7
        exact ok_some (mkPXC (by omega) (by omega) (show (1 : Int32).toInt = 0 ∨ (0 ≤ v1.toInt ∧ v1.toInt ≤ 11) by omega))
      · have k9 : (1 : Int32).toInt = 1 := by decide
        replace c7 := i_ne.mp c7
        exact ok_some (mkPXC (by omega) (by omega) (show (0 : Int32).toInt = 0 ∨ (0 ≤ v1.toInt ∧ v1.toInt ≤ 11) by omega))
    · have f10 := rdC11 hI (j := v1.toNatClampNeg)
      have k11 : (4 : Int32).toInt = 4 := by decide
      replace c4 := i_ne.mp c4
      have k12 : (1 : Int32).toInt = 1 := by decide
      exact ok_some (mkPXC (by omega) (by omega) (show (1 : Int32).toInt = 0 ∨ (0 ≤ v1.toInt ∧ v1.toInt ≤ 11) by omega))
set_option maxHeartbeats 4000000 in
theorem sX8_gatherPecks_2 {s0 : Sg} {r2 : (Int32 × Int32 × Sg) → Option (Sg)} {v1 : Int32} {v2 : Int32} {sg : Sg} (hS : StC0 MX8_gatherPecks s0 sg) (v1l : 0 ≤ v1.toInt) (v1h : v1.toInt ≤ 11) (v2l : 0 ≤ v2.toInt) (v2h : v2.toInt ≤ 12) (hr2 : ∀ (v1' : Int32) (v2' : Int32) (sg' : Sg), StC0 MX8_gatherPecks s0 sg' → 0 ≤ v1'.toInt → v1'.toInt ≤ 11 → 0 ≤ v2'.toInt → v2'.toInt ≤ 12 → v2.toInt < v2'.toInt → Ok (PVC0 MX8_gatherPecks s0) (r2 (v1', v2', sg'))) : Ok (PVC0 MX8_gatherPecks s0) (fX8_gatherPecks_2 r2 v1 v2 sg) := by
  unfold fX8_gatherPecks_2
  refine ok_ite (fun c1 => ?_) (fun c1 => ?_)
  · have f2 := rdC3_2 hS.1
    replace c1 := i_le.mp c1
    exact ok_some (mkPVC0 hS)
  · have f3 := rdC3_2 hS.1
    replace c1 := i_nle.mp c1
    refine ok_gin (by omega) (by omega) ?_
    refine ok_gin (by omega) (by omega) ?_
    have f4 := rdC17 hS.1 (j := v1.toNatClampNeg)
    have k5 : (12 : Int32).toInt = 12 := by decide
    have f6 := mul_r (a := (sg 17 v1.toNatClampNeg)) (b := (12 : Int32)) 12 (by decide) (by omega) (by omega)
    have f7 := rdC17 hS.1 (j := v2.toNatClampNeg)
    have f8 := add_i (a := ((sg 17 v1.toNatClampNeg) * (12 : Int32))) (b := (sg 17 v2.toNatClampNeg)) (by omega) (by omega)
    refine ok_lt (fun x4 ex4 => ?_)
    replace ex4 := congrArg Int32.toInt ex4
    refine ok_gin (by omega) (by omega) ?_
    have f9 := rdC15 hS.1 (j := x4.toNatClampNeg)
    refine ok_lt (fun x6 ex6 => ?_)
    replace ex6 := congrArg Int32.toInt ex6
    have f10 := mul_r (a := v1) (b := (12 : Int32)) 12 (by decide) (by omega) (by omega)
    have f11 := add_i (a := (v1 * (12 : Int32))) (b := v2) (by omega) (by omega)
    refine ok_gin (by omega) (by omega) ?_
    refine ok_lt (fun sg8 esg8 => ?_)
    have hS12 := upZ23 hS (by decide) esg8 (by omega) (by omega)
    have e13 : (sg8 3 2).toInt = (sg 3 2).toInt := by rw [esg8]; rfl
    refine ok_lt (fun x9 ex9 => ?_)
    replace ex9 : x9.toInt = v2.toInt + 1 := by rw [ex9]; exact add_c 1 (by decide) (by omega) (by omega)
    exact hr2 v1 x9 sg8 hS12 (by omega) (by omega) (by omega) (by omega) (by omega)
set_option maxHeartbeats 4000000 in
theorem sLX8_gatherPecks_2 {s0 : Sg} {v1 : Int32} {v2 : Int32} {sg : Sg} (hS : StC0 MX8_gatherPecks s0 sg) (v1l : 0 ≤ v1.toInt) (v1h : v1.toInt ≤ 11) (v2l : 0 ≤ v2.toInt) (v2h : v2.toInt ≤ 12) : Ok (PVC0 MX8_gatherPecks s0) (LX8_gatherPecks_2 (v1, v2, sg)) := by
  unfold LX8_gatherPecks_2
  refine ok_loop (I := fun (z : Int32 × Int32 × Sg) => StC0 MX8_gatherPecks s0 z.2.2 ∧ 0 ≤ z.1.toInt ∧ z.1.toInt ≤ 11 ∧ 0 ≤ z.2.1.toInt ∧ z.2.1.toInt ≤ 12) (m := fun (z : Int32 × Int32 × Sg) => (13 - z.2.1.toInt).toNat) _ ?_ ?_ _ ?_
  · intro z hz
    obtain ⟨h0, h1, h2, h3, h4⟩ := hz
    show (13 - z.2.1.toInt).toNat < 10000
    omega
  · intro rec z hz hrec
    obtain ⟨v1, v2, sg⟩ := z
    replace hz : StC0 MX8_gatherPecks s0 sg ∧ 0 ≤ v1.toInt ∧ v1.toInt ≤ 11 ∧ 0 ≤ v2.toInt ∧ v2.toInt ≤ 12 := hz
    obtain ⟨h0, h1, h2, h3, h4⟩ := hz
    show Ok (PVC0 MX8_gatherPecks s0) (fX8_gatherPecks_2 rec v1 v2 sg)
    exact sX8_gatherPecks_2 h0 h1 h2 h3 h4 (fun v1' v2' sg' g0 g1 g2 g3 g4 g5 => hrec (v1', v2', sg') ⟨g0, g1, g2, g3, g4⟩ (show (13 - v2'.toInt).toNat < (13 - v2.toInt).toNat by omega))
  · exact ⟨hS, v1l, v1h, v2l, v2h⟩
set_option maxHeartbeats 4000000 in
theorem sX8_gatherPecks {v1 : Int32} {sg : Sg} (hI : IC0 sg) (v1l : 0 ≤ v1.toInt) (v1h : v1.toInt ≤ 11) : Ok (PVC0 MX8_gatherPecks sg) (fX8_gatherPecks v1 sg) := by
  have hS : StC0 MX8_gatherPecks sg sg := StC0.rf hI
  unfold fX8_gatherPecks
  have k1 : (0 : Int32).toInt = 0 := by decide
  exact sLX8_gatherPecks_2 hS (by omega) (by omega) (by omega) (by omega)
theorem sX2_asksForSomebody {v1 : Int32} {sg : Sg} (hI : IC0 sg) (v1l : 0 ≤ v1.toInt) (v1h : v1.toInt ≤ 11) : Ok (PXC sg 0 1 (fun (y : Int) => y = 0 ∨ 0 ≤ (sg 12 v1.toNatClampNeg).toInt)) (fX2_asksForSomebody v1 sg) := by
  unfold fX2_asksForSomebody
  have k0 : (0 : Int32).toInt = 0 := by decide
  have k1 : (1 : Int32).toInt = 1 := by decide
  refine ok_gin (by omega) (by omega) ?_
  refine ok_ite (fun c1 => ?_) (fun c1 => ?_)
  · exact ok_some (mkPXC (by omega) (by omega) (Or.inl k0))
  · refine ok_gin (by omega) (by omega) ?_
    refine ok_ite (fun c2 => ?_) (fun c2 => ?_)
    · exact ok_some (mkPXC (by omega) (by omega) (Or.inl k0))
    · refine ok_gin (by omega) (by omega) ?_
      refine ok_ite (fun c3 => ?_) (fun c3 => ?_)
      · exact ok_some (mkPXC (by omega) (by omega) (Or.inl k0))
      · rcases hI.2 12 v1.toNatClampNeg (Or.inl rfl) with h | h
        · exact absurd h c3
        · exact ok_some (mkPXC (by omega) (by omega) (Or.inr h))
set_option maxHeartbeats 4000000 in
theorem sX8_gatherAsking_100 {s0 : Sg} {v1 : Int32} {sg : Sg} (hS : StC0 MX8_gatherAsking s0 sg) (v1l : 0 ≤ v1.toInt) (v1h : v1.toInt ≤ 11) (xw : 0 ≤ (sg 20 v1.toNatClampNeg).toInt) : Ok (PVC0 MX8_gatherAsking s0) (fX8_gatherAsking_100 v1 sg) := by
  unfold fX8_gatherAsking_100
  refine ok_gin (by omega) (by omega) ?_
  refine ok_ite (fun c1 => ?_) (fun c1 => ?_)
  · have f2 := rdC19 hS.1 (j := v1.toNatClampNeg)
    have k3 : (3 : Int32).toInt = 3 := by decide
    replace c1 := i_eq.mp c1
    refine ok_gin (by omega) (by omega) ?_
    have f4 := rdC20 hS.1 (j := v1.toNatClampNeg)
    refine ok_lt (fun x4 ex4 => ?_)
    replace ex4 := congrArg Int32.toInt ex4
    refine ok_gin (by omega) (by omega) ?_
    have f5 := rdC22 hS.1 (j := x4.toNatClampNeg)
    have f6 := shl_i (v := v1) 11 2048 (by decide) (by decide) (by omega) (by omega)
    have f7 := or_i (a := (sg 22 x4.toNatClampNeg)) (b := ((1 : Int32) <<< (v1 &&& 31))) 12 4096 (by decide) (by decide) (by omega) (by omega) (by omega) (by omega)
    refine ok_lt (fun x6 ex6 => ?_)
    replace ex6 := congrArg Int32.toInt ex6
    refine ok_gin (by omega) (by omega) ?_
    refine ok_lt (fun sg8 esg8 => ?_)
    have hS8 := upZ22 hS (by decide) esg8 (by omega) (by omega)
    have e9 : (sg8 20 v1.toNatClampNeg).toInt = (sg 20 v1.toNatClampNeg).toInt := by rw [esg8]; rfl
    exact ok_some (mkPVC0 hS8)
  · have f10 := rdC19 hS.1 (j := v1.toNatClampNeg)
    have k11 : (3 : Int32).toInt = 3 := by decide
    replace c1 := i_ne.mp c1
    exact ok_some (mkPVC0 hS)
set_option maxHeartbeats 4000000 in
theorem sX8_gatherAsking_41 {s0 : Sg} {v1 : Int32} {w0 : Int32} {w1 : Int32} {sg : Sg} (hS : StC0 MX8_gatherAsking s0 sg) (v1l : 0 ≤ v1.toInt) (v1h : v1.toInt ≤ 11) (w0l : (-1) ≤ w0.toInt) (w0h : w0.toInt ≤ 11) (w1l : 0 ≤ w1.toInt) (w1h : w1.toInt ≤ 11) : Ok (PVC0 MX8_gatherAsking s0) (fX8_gatherAsking_41 v1 w0 w1 sg) := by
  unfold fX8_gatherAsking_41
  refine ok_gin (by omega) (by omega) ?_
  refine ok_lt (fun sg2 esg2 => ?_)
  have hS1 := upZ20 hS (by decide) esg2 (by omega) (by omega)
  refine ok_gin (by omega) (by omega) ?_
  refine ok_ite (fun c2 => ?_) (fun c2 => ?_)
  · have f3 := rdC20 hS1.1 (j := v1.toNatClampNeg)
    have k4 : (-1 : Int32).toInt = -1 := by decide
    replace c2 := i_eq.mp c2
    exact ok_some (mkPVC0 hS1)
  · have f5 := rdC20 hS1.1 (j := v1.toNatClampNeg)
    have k6 : (-1 : Int32).toInt = -1 := by decide
    replace c2 := i_ne.mp c2
    refine ok_gin (by omega) (by omega) ?_
    refine ok_ite (fun c7 => ?_) (fun c7 => ?_)
    · have f8 := rdC19 hS1.1 (j := v1.toNatClampNeg)
      have k9 : (2 : Int32).toInt = 2 := by decide
      replace c7 := i_eq.mp c7
      refine ok_gin (by omega) (by omega) ?_
      refine ok_gin (by omega) (by omega) ?_
      have f10 := rdC21 hS1.1 (j := v1.toNatClampNeg)
      have f11 := shl_i (v := (sg2 20 v1.toNatClampNeg)) 11 2048 (by decide) (by decide) (by omega) (by omega)
      have f12 := or_i (a := (sg2 21 v1.toNatClampNeg)) (b := ((1 : Int32) <<< ((sg2 20 v1.toNatClampNeg) &&& 31))) 12 4096 (by decide) (by decide) (by omega) (by omega) (by omega) (by omega)
      refine ok_lt (fun x15 ex15 => ?_)
      replace ex15 := congrArg Int32.toInt ex15
      refine ok_gin (by omega) (by omega) ?_
      refine ok_lt (fun sg17 esg17 => ?_)
      have hS13 := upZ21 hS1 (by decide) esg17 (by omega) (by omega)
      have e14 : (sg17 20 v1.toNatClampNeg).toInt = (sg2 20 v1.toNatClampNeg).toInt := by rw [esg17]; rfl
      exact sX8_gatherAsking_100 hS13 (by omega) (by omega) (by omega)
    · have f15 := rdC19 hS1.1 (j := v1.toNatClampNeg)
      have k16 : (2 : Int32).toInt = 2 := by decide
      replace c7 := i_ne.mp c7
      refine ok_gin (by omega) (by omega) ?_
      refine ok_lt (fun x8 ex8 => ?_)
      replace ex8 := congrArg Int32.toInt ex8
      refine ok_gin (by omega) (by omega) ?_
      have f17 := rdC21 hS1.1 (j := x8.toNatClampNeg)
      have f18 := shl_i (v := v1) 11 2048 (by decide) (by decide) (by omega) (by omega)
      have f19 := or_i (a := (sg2 21 x8.toNatClampNeg)) (b := ((1 : Int32) <<< (v1 &&& 31))) 12 4096 (by decide) (by decide) (by omega) (by omega) (by omega) (by omega)
      refine ok_lt (fun x10 ex10 => ?_)
      replace ex10 := congrArg Int32.toInt ex10
      refine ok_gin (by omega) (by omega) ?_
      refine ok_lt (fun sg12 esg12 => ?_)
      have hS20 := upZ21 hS1 (by decide) esg12 (by omega) (by omega)
      have e21 : (sg12 20 v1.toNatClampNeg).toInt = (sg2 20 v1.toNatClampNeg).toInt := by rw [esg12]; rfl
      exact sX8_gatherAsking_100 hS20 (by omega) (by omega) (by omega)
set_option maxHeartbeats 4000000 in
theorem sX8_gatherAsking {v1 : Int32} {sg : Sg} (hI : IC0 sg) (v1l : 0 ≤ v1.toInt) (v1h : v1.toInt ≤ 11) : Ok (PVC0 MX8_gatherAsking sg) (fX8_gatherAsking v1 sg) := by
  have hS : StC0 MX8_gatherAsking sg sg := StC0.rf hI
  unfold fX8_gatherAsking
  refine ok_gin (by omega) (by omega) ?_
  have f1 := rdC17 hS.1 (j := v1.toNatClampNeg)
  refine ok_lt (fun x2 ex2 => ?_)
  replace ex2 := congrArg Int32.toInt ex2
  refine bnd2_pxC (sX2_asksForSomebody (v1 := x2) hS.1 (by omega) (by omega)) (fun y3 qy3 zy3 xy3 => ?_)
  replace xy3 : y3.toInt = 0 ∨ 0 ≤ (sg 12 x2.toNatClampNeg).toInt := xy3
  refine ok_ite (fun c2 => ?_) (fun c2 => ?_)
  · have k3 : (0 : Int32).toInt = 0 := by decide
    replace c2 := i_eq.mp c2
    have k4 : (-1 : Int32).toInt = -1 := by decide
    exact sX8_gatherAsking_41 hS (by omega) (by omega) (by omega) (by omega) (by omega) (by omega)
  · have k5 : (0 : Int32).toInt = 0 := by decide
    replace c2 := i_ne.mp c2
    refine ok_gin (by omega) (by omega) ?_
    have f6 := rdC12 hS.1 (j := x2.toNatClampNeg)
    refine ok_lt (fun x8 ex8 => ?_)
    replace ex8 := congrArg Int32.toInt ex8
    refine ok_gin (by omega) (by omega) ?_
    have f7 := rdC18 hS.1 (j := x8.toNatClampNeg)
    exact sX8_gatherAsking_41 hS (by omega) (by omega) (by omega) (by omega) (by omega) (by omega)
/-- what gather leaves -/
def PG (s0 r : Sg) : Prop := StC0 MX8_gather s0 r ∧ (r 3 1).toInt = (s0 1 1).toInt ∧ ∀ h, cnt s0 h → 0 ≤ (r 18 h).toInt
theorem isc_X2 {v1 : Int32} {sg : Sg} (hI : IC0 sg) : Ok (PXC sg 0 1 (fun (y : Int) => (y = 0 ∧ (v1.toInt < 0 ∨ ¬ cnt sg v1.toNatClampNeg)) ∨ (y = 1 ∧ cnt sg v1.toNatClampNeg ∧ 0 ≤ v1.toInt ∧ v1.toInt ≤ 11))) (fX2_isCounted v1 sg) := by
  unfold fX2_isCounted fX2_has
  have k0 : (0 : Int32).toInt = 0 := by decide
  have k1 : (1 : Int32).toInt = 1 := by decide
  have h := rdC1_0 hI
  by_cases c1 : v1 < 0
  · rw [if_pos c1]
    exact ok_some (mkPXC (by omega) (by omega) (Or.inl ⟨k0, Or.inl (by have := i_lt.mp c1; omega)⟩))
  · rw [if_neg c1]
    replace c1 := i_nlt.mp c1
    have hc := cl_i (i := v1) (by omega)
    by_cases c2 : (sg 1 0) ≤ v1
    · rw [if_pos c2]
      replace c2 := i_le.mp c2
      refine ok_some (mkPXC (by omega) (by omega) (Or.inl ⟨k0, Or.inr (fun z => ?_)⟩))
      have := z.1
      omega
    · rw [if_neg c2]
      replace c2 := i_nle.mp c2
      show Ok _ (gin v1 12 _)
      refine ok_gin (by omega) (by omega) ?_
      refine ok_ite (fun c3 => ?_) (fun c3 => ?_)
      · refine ok_gin (by omega) (by omega) ?_
        refine ok_ite (fun c4 => ?_) (fun c4 => ?_)
        · exact ok_some (mkPXC (by omega) (by omega) (Or.inr ⟨k1, ⟨by omega, fun _ => c4⟩, by omega, by omega⟩))
        · exact ok_some (mkPXC (by omega) (by omega) (Or.inl ⟨k0, Or.inr (fun z => c4 (z.2 c3))⟩))
      · exact ok_some (mkPXC (by omega) (by omega) (Or.inr ⟨k1, ⟨by omega, fun z => absurd z c3⟩, by omega, by omega⟩))
theorem g_skip {s0 sg sg3 : Sg} {v1 : Int32} (h3 : StC0 MX8_gather s0 sg3) (e : sg3 = up2 sg 18 v1.toNatClampNeg (-1 : Int32)) (v0 : 0 ≤ v1.toInt) (xg : (sg 3 1).toInt = (s0 1 1).toInt ∧ ∀ h : Nat, (h : Int) < v1.toInt → cnt s0 h → 0 ≤ (sg 18 h).toInt) (hn : v1.toInt < 0 ∨ ¬ cnt sg3 v1.toNatClampNeg) : (sg3 3 1).toInt = (s0 1 1).toInt ∧ ∀ h : Nat, (h : Int) < v1.toInt + 1 → cnt s0 h → 0 ≤ (sg3 18 h).toInt := by
  have hc := cl_i v0
  refine ⟨by rw [e]; exact xg.1, fun h hh hx => ?_⟩
  by_cases q : h = v1.toNatClampNeg
  · rcases hn with z | z
    · omega
    · exact absurd ((cnt_cg (congrFun (h3.fr 1 (by decide)) _) (congrFun (h3.fr 11 (by decide)) _) (congrFun (h3.fr 13 (by decide)) _)).mpr (by rw [← q]; exact hx)) z
  · rw [e, up2_is, if_neg (fun z => q z.2)]
    exact xg.2 h (by omega) hx
theorem g_put {s0 sg sg3 sg22 : Sg} {v1 x8 : Int32} (e : sg3 = up2 sg 18 v1.toNatClampNeg (-1 : Int32)) (e2 : sg22 18 = (up2 sg3 18 v1.toNatClampNeg x8) 18) (v0 : 0 ≤ v1.toInt) (h8 : 0 ≤ x8.toInt) (xg : (sg 3 1).toInt = (s0 1 1).toInt ∧ ∀ h : Nat, (h : Int) < v1.toInt → cnt s0 h → 0 ≤ (sg 18 h).toInt) (h1 : (sg22 3 1).toInt = (s0 1 1).toInt) : (sg22 3 1).toInt = (s0 1 1).toInt ∧ ∀ h : Nat, (h : Int) < v1.toInt + 1 → cnt s0 h → 0 ≤ (sg22 18 h).toInt := by
  have hc := cl_i v0
  refine ⟨h1, fun h hh hx => ?_⟩
  rw [e2, up2_is]
  by_cases q : h = v1.toNatClampNeg
  · rw [if_pos ⟨rfl, q⟩]; exact h8
  · rw [if_neg (fun z => q z.2), e, up2_is, if_neg (fun z => q z.2)]
    exact xg.2 h (by omega) hx
set_option maxHeartbeats 4000000 in
theorem sX8_gather_133 {s0 : Sg} {r133 : (Int32 × Sg) → Option (Sg)} {v1 : Int32} {sg : Sg} (hS : StC0 MX8_gather s0 sg) (v1l : 0 ≤ v1.toInt) (v1h : v1.toInt ≤ 12) (xg : (sg 3 1).toInt = (s0 1 1).toInt ∧ ∀ h : Nat, cnt s0 h → 0 ≤ (sg 18 h).toInt) (hr133 : ∀ (v1' : Int32) (sg' : Sg), StC0 MX8_gather s0 sg' → 0 ≤ v1'.toInt → v1'.toInt ≤ 12 → ((sg' 3 1).toInt = (s0 1 1).toInt ∧ ∀ h : Nat, cnt s0 h → 0 ≤ (sg' 18 h).toInt) → v1.toInt < v1'.toInt → Ok (PG s0) (r133 (v1', sg'))) : Ok (PG s0) (fX8_gather_133 r133 v1 sg) := by
  unfold fX8_gather_133
  refine ok_ite (fun c1 => ?_) (fun c1 => ?_)
  · have f2 := rdC3_2 hS.1
    replace c1 := i_le.mp c1
    exact ok_some ⟨hS, xg.1, xg.2⟩
  · have f3 := rdC3_2 hS.1
    replace c1 := i_nle.mp c1
    refine bnd1_pvC0 (sX8_gatherPecks (v1 := v1) hS.1 (by omega) (by omega)) (fun sg2 hsg2 => ?_)
    have e4 : (sg2 3 1).toInt = (sg 3 1).toInt := congrArg Int32.toInt (congrFun (hsg2.fr 3 (by decide)) _)
    have e5 : (sg2 3 2).toInt = (sg 3 2).toInt := congrArg Int32.toInt (congrFun (hsg2.fr 3 (by decide)) _)
    have hS6 := hS.tr hsg2 (by decide)
    refine bnd1_pvC0 (sX8_gatherAsking (v1 := v1) hS6.1 (by omega) (by omega)) (fun sg4 hsg4 => ?_)
    have e7 : (sg4 3 1).toInt = (sg2 3 1).toInt := congrArg Int32.toInt (congrFun (hsg4.fr 3 (by decide)) _)
    have e8 : (sg4 3 2).toInt = (sg2 3 2).toInt := congrArg Int32.toInt (congrFun (hsg4.fr 3 (by decide)) _)
    have hS9 := hS6.tr hsg4 (by decide)
    refine ok_lt (fun x6 ex6 => ?_)
    replace ex6 : x6.toInt = v1.toInt + 1 := by rw [ex6]; exact add_c 1 (by decide) (by omega) (by omega)
    exact hr133 x6 sg4 hS9 (by omega) (by omega) (by rw [hsg4.fr 3 (by decide), hsg2.fr 3 (by decide), hsg4.fr 18 (by decide), hsg2.fr 18 (by decide)]; exact xg) (by omega)
set_option maxHeartbeats 4000000 in
theorem sLX8_gather_133 {s0 : Sg} {v1 : Int32} {sg : Sg} (hS : StC0 MX8_gather s0 sg) (v1l : 0 ≤ v1.toInt) (v1h : v1.toInt ≤ 12) (xg : (sg 3 1).toInt = (s0 1 1).toInt ∧ ∀ h : Nat, cnt s0 h → 0 ≤ (sg 18 h).toInt) : Ok (PG s0) (LX8_gather_133 (v1, sg)) := by
  unfold LX8_gather_133
  refine ok_loop (I := fun (z : Int32 × Sg) => StC0 MX8_gather s0 z.2 ∧ 0 ≤ z.1.toInt ∧ z.1.toInt ≤ 12 ∧ (z.2 3 1).toInt = (s0 1 1).toInt ∧ ∀ h : Nat, cnt s0 h → 0 ≤ (z.2 18 h).toInt) (m := fun (z : Int32 × Sg) => (13 - z.1.toInt).toNat) _ ?_ ?_ _ ?_
  · intro z hz
    obtain ⟨h0, h1, h2, h3⟩ := hz
    show (13 - z.1.toInt).toNat < 10000
    omega
  · intro rec z hz hrec
    obtain ⟨v1, sg⟩ := z
    replace hz : StC0 MX8_gather s0 sg ∧ 0 ≤ v1.toInt ∧ v1.toInt ≤ 12 ∧ (sg 3 1).toInt = (s0 1 1).toInt ∧ ∀ h : Nat, cnt s0 h → 0 ≤ (sg 18 h).toInt := hz
    obtain ⟨h0, h1, h2, h3⟩ := hz
    show Ok (PG s0) (fX8_gather_133 rec v1 sg)
    exact sX8_gather_133 h0 h1 h2 h3 (fun v1' sg' g0 g1 g2 g3 g4 => hrec (v1', sg') ⟨g0, g1, g2, g3⟩ (show (13 - v1'.toInt).toNat < (13 - v1.toInt).toNat by omega))
  · exact ⟨hS, v1l, v1h, xg⟩
set_option maxHeartbeats 4000000 in
theorem sX8_gather_125 {s0 : Sg} {r33 : (Int32 × Sg) → Option (Sg)} {v1 : Int32} {sg : Sg} (hS : StC0 MX8_gather s0 sg) (v1l : 0 ≤ v1.toInt) (v1h : v1.toInt ≤ 11) (xs : (sg 3 2).toInt ≤ v1.toInt + 1) (xg : (sg 3 1).toInt = (s0 1 1).toInt ∧ ∀ h : Nat, (h : Int) < v1.toInt + 1 → cnt s0 h → 0 ≤ (sg 18 h).toInt) (hr33 : ∀ (v1' : Int32) (sg' : Sg), StC0 MX8_gather s0 sg' → 0 ≤ v1'.toInt → v1'.toInt ≤ 12 → ((sg' 3 2).toInt ≤ v1'.toInt) → ((sg' 3 1).toInt = (s0 1 1).toInt ∧ ∀ h : Nat, (h : Int) < v1'.toInt → cnt s0 h → 0 ≤ (sg' 18 h).toInt) → v1.toInt < v1'.toInt → Ok (PG s0) (r33 (v1', sg'))) : Ok (PG s0) (fX8_gather_125 r33 v1 sg) := by
  unfold fX8_gather_125
  refine ok_lt (fun x1 ex1 => ?_)
  replace ex1 : x1.toInt = v1.toInt + 1 := by rw [ex1]; exact add_c 1 (by decide) (by omega) (by omega)
  exact hr33 x1 sg hS (by omega) (by omega) (by omega) ⟨xg.1, fun h hh => xg.2 h (by omega)⟩ (by omega)
set_option maxHeartbeats 4000000 in
theorem sX8_gather_33 {s0 : Sg} {r33 : (Int32 × Sg) → Option (Sg)} {v1 : Int32} {sg : Sg} (hS : StC0 MX8_gather s0 sg) (v1l : 0 ≤ v1.toInt) (v1h : v1.toInt ≤ 12) (xs : (sg 3 2).toInt ≤ v1.toInt) (xg : (sg 3 1).toInt = (s0 1 1).toInt ∧ ∀ h : Nat, (h : Int) < v1.toInt → cnt s0 h → 0 ≤ (sg 18 h).toInt) (hr33 : ∀ (v1' : Int32) (sg' : Sg), StC0 MX8_gather s0 sg' → 0 ≤ v1'.toInt → v1'.toInt ≤ 12 → ((sg' 3 2).toInt ≤ v1'.toInt) → ((sg' 3 1).toInt = (s0 1 1).toInt ∧ ∀ h : Nat, (h : Int) < v1'.toInt → cnt s0 h → 0 ≤ (sg' 18 h).toInt) → v1.toInt < v1'.toInt → Ok (PG s0) (r33 (v1', sg'))) : Ok (PG s0) (fX8_gather_33 r33 v1 sg) := by
  unfold fX8_gather_33
  refine ok_ite (fun c1 => ?_) (fun c1 => ?_)
  · have k2 : (12 : Int32).toInt = 12 := by decide
    replace c1 := i_le.mp c1
    have k3 : (0 : Int32).toInt = 0 := by decide
    exact sLX8_gather_133 hS (by omega) (by omega) ⟨xg.1, fun h hh => xg.2 h (by have := hh.1; have e := rdC1_0 hS.1; have e2 : (sg 1 0).toInt = (s0 1 0).toInt := congrArg Int32.toInt (congrFun (hS.fr 1 (by decide)) 0); omega) hh⟩
  · have k4 : (12 : Int32).toInt = 12 := by decide
    replace c1 := i_nle.mp c1
    refine ok_gin (by omega) (by omega) ?_
    have k5 : (-1 : Int32).toInt = -1 := by decide
    refine ok_lt (fun sg3 esg3 => ?_)
    have hS6 := upZ18 hS (by decide) esg3 (by omega) (by omega)
    have e7 : (sg3 3 1).toInt = (sg 3 1).toInt := by rw [esg3]; rfl
    have e8 : (sg3 3 2).toInt = (sg 3 2).toInt := by rw [esg3]; rfl
    refine bnd2_pxC (isc_X2 (v1 := v1) hS6.1) (fun y4 qy4 zy4 xy4 => ?_)
    replace xy4 : (y4.toInt = 0 ∧ (v1.toInt < 0 ∨ ¬ cnt sg3 v1.toNatClampNeg)) ∨ (y4.toInt = 1 ∧ cnt sg3 v1.toNatClampNeg ∧ 0 ≤ v1.toInt ∧ v1.toInt ≤ 11) := xy4
    refine ok_ite (fun c9 => ?_) (fun c9 => ?_)
    · have k10 : (0 : Int32).toInt = 0 := by decide
      replace c9 := i_eq.mp c9
      exact sX8_gather_125 hS6 (by omega) (by omega) (by omega) (g_skip hS6 esg3 (by omega) xg (by rcases xy4 with z | z; exact z.2; exact absurd z.1 (by omega))) hr33
    · have k11 : (0 : Int32).toInt = 0 := by decide
      replace c9 := i_ne.mp c9
      have f12 := rdC3_2 hS6.1
      refine ok_lt (fun x8 ex8 => ?_)
      replace ex8 := congrArg Int32.toInt ex8
      refine ok_gin (by omega) (by omega) ?_
      refine ok_lt (fun sg10 esg10 => ?_)
      have hS13 := upZ18 hS6 (by decide) esg10 (by omega) (by omega)
      have e14 : (sg10 3 1).toInt = (sg3 3 1).toInt := by rw [esg10]; rfl
      have e15 : (sg10 3 2).toInt = (sg3 3 2).toInt := by rw [esg10]; rfl
      have f16 := rdC3_2 hS13.1
      refine ok_gin (by omega) (by omega) ?_
      refine ok_lt (fun sg12 esg12 => ?_)
      have hS17 := upZ17 hS13 (by decide) esg12 (by omega) (by omega)
      have e18 : (sg12 3 1).toInt = (sg10 3 1).toInt := by rw [esg12]; rfl
      have e19 : (sg12 3 2).toInt = (sg10 3 2).toInt := by rw [esg12]; rfl
      refine ok_gin (by omega) (by omega) ?_
      have f20 := rdC11 hS17.1 (j := v1.toNatClampNeg)
      refine ok_lt (fun x14 ex14 => ?_)
      replace ex14 := congrArg Int32.toInt ex14
      have f21 := rdC3_2 hS17.1
      refine ok_gin (by omega) (by omega) ?_
      refine ok_lt (fun sg16 esg16 => ?_)
      have hS22 := upZ19 hS17 (by decide) esg16 (by omega) (by omega)
      have e23 : (sg16 3 1).toInt = (sg12 3 1).toInt := by rw [esg16]; rfl
      have e24 : (sg16 3 2).toInt = (sg12 3 2).toInt := by rw [esg16]; rfl
      have f25 := rdC3_2 hS22.1
      refine ok_gin (by omega) (by omega) ?_
      refine ok_lt (fun sg18 esg18 => ?_)
      have hS26 := upZ21 hS22 (by decide) esg18 (by omega) (by omega)
      have e27 : (sg18 3 1).toInt = (sg16 3 1).toInt := by rw [esg18]; rfl
      have e28 : (sg18 3 2).toInt = (sg16 3 2).toInt := by rw [esg18]; rfl
      have f29 := rdC3_2 hS26.1
      refine ok_gin (by omega) (by omega) ?_
      refine ok_lt (fun sg20 esg20 => ?_)
      have hS30 := upZ22 hS26 (by decide) esg20 (by omega) (by omega)
      have e31 : (sg20 3 1).toInt = (sg18 3 1).toInt := by rw [esg20]; rfl
      have e32 : (sg20 3 2).toInt = (sg18 3 2).toInt := by rw [esg20]; rfl
      have f33 := rdC3_2 hS30.1
      refine ok_lt (fun x21 ex21 => ?_)
      replace ex21 : x21.toInt = (sg20 3 2).toInt + 1 := by rw [ex21]; exact add_c 1 (by decide) (by omega) (by omega)
      refine ok_lt (fun sg22 esg22 => ?_)
      have hS34 := upZ3_2 hS30 (by decide) esg22 (by omega) (by omega)
      have e35 : (sg22 3 1).toInt = (sg20 3 1).toInt := by rw [esg22]; rfl
      have e36 : (sg22 3 2).toInt = x21.toInt := by rw [esg22]; rfl
      exact sX8_gather_125 hS34 (by omega) (by omega) (by omega) (g_put (x8 := x8) esg3 (by rw [esg22, esg20, esg18, esg16, esg12, esg10]; rfl) (by omega) (by omega) xg (by omega)) hr33
set_option maxHeartbeats 4000000 in
theorem sLX8_gather_33 {s0 : Sg} {v1 : Int32} {sg : Sg} (hS : StC0 MX8_gather s0 sg) (v1l : 0 ≤ v1.toInt) (v1h : v1.toInt ≤ 12) (xs : (sg 3 2).toInt ≤ v1.toInt) (xg : (sg 3 1).toInt = (s0 1 1).toInt ∧ ∀ h : Nat, (h : Int) < v1.toInt → cnt s0 h → 0 ≤ (sg 18 h).toInt) : Ok (PG s0) (LX8_gather_33 (v1, sg)) := by
  unfold LX8_gather_33
  refine ok_loop (I := fun (z : Int32 × Sg) => StC0 MX8_gather s0 z.2 ∧ 0 ≤ z.1.toInt ∧ z.1.toInt ≤ 12 ∧ (z.2 3 2).toInt ≤ z.1.toInt ∧ (z.2 3 1).toInt = (s0 1 1).toInt ∧ ∀ h : Nat, (h : Int) < z.1.toInt → cnt s0 h → 0 ≤ (z.2 18 h).toInt) (m := fun (z : Int32 × Sg) => (13 - z.1.toInt).toNat) _ ?_ ?_ _ ?_
  · intro z hz
    obtain ⟨h0, h1, h2, h3, h4⟩ := hz
    show (13 - z.1.toInt).toNat < 10000
    omega
  · intro rec z hz hrec
    obtain ⟨v1, sg⟩ := z
    replace hz : StC0 MX8_gather s0 sg ∧ 0 ≤ v1.toInt ∧ v1.toInt ≤ 12 ∧ (sg 3 2).toInt ≤ v1.toInt ∧ (sg 3 1).toInt = (s0 1 1).toInt ∧ ∀ h : Nat, (h : Int) < v1.toInt → cnt s0 h → 0 ≤ (sg 18 h).toInt := hz
    obtain ⟨h0, h1, h2, h3, h4⟩ := hz
    show Ok (PG s0) (fX8_gather_33 rec v1 sg)
    exact sX8_gather_33 h0 h1 h2 h3 h4 (fun v1' sg' g0 g1 g2 g3 g4 g5 => hrec (v1', sg') ⟨g0, g1, g2, g3, g4⟩ (show (13 - v1'.toInt).toNat < (13 - v1.toInt).toNat by omega))
  · exact ⟨hS, v1l, v1h, xs, xg⟩
set_option maxHeartbeats 4000000 in
theorem zX8_gather {sg : Sg} (hI : IC0 sg) (hn : ¬ (sg 3 1) = (sg 1 1)) : Ok (PG sg) (fX8_gather sg) := by
  have hS : StC0 MX8_gather sg sg := StC0.rf hI
  unfold fX8_gather
  rw [if_neg hn]
  refine ok_lt (fun x2 ex2 => ?_)
  replace ex2 := congrArg Int32.toInt ex2
  refine ok_lt (fun sg3 esg3 => ?_)
  have hS2 := upZ3_1 hS (by decide) esg3
  have e4 : (sg3 3 1).toInt = x2.toInt := by rw [esg3]; rfl
  have k5 : (0 : Int32).toInt = 0 := by decide
  refine ok_lt (fun sg4 esg4 => ?_)
  have hS6 := upZ3_2 hS2 (by decide) esg4 (by omega) (by omega)
  have e8 : (sg4 3 1).toInt = (sg3 3 1).toInt := by rw [esg4]; rfl
  have e9 : (sg4 3 2).toInt = (0 : Int32).toInt := by rw [esg4]; rfl
  exact sLX8_gather_33 hS6 (by omega) (by omega) (by omega) ⟨by omega, fun h hh => by omega⟩
theorem sX8_gather {sg : Sg} (hI : IC sg) : Ok (PVXC MX8_gather sg (fun r => (r 3 1).toInt = (r 1 1).toInt)) (fX8_gather sg) := by
  by_cases c : (sg 3 1) = (sg 1 1)
  · unfold fX8_gather
    rw [if_pos c]
    exact ok_some (mkPVXC (StC.rf hI) (i_eq.mp c))
  · refine ok_mono (zX8_gather hI.1 c) (fun r hr => ?_)
    obtain ⟨h1, h2, h3⟩ := hr
    obtain ⟨g1, g2, g3, g4, g5⟩ := hI.2
    replace c := i_ne.mp c
    have f1 := h1.fr 1 (by decide)
    have f4 := h1.fr 4 (by decide)
    have f11 := h1.fr 11 (by decide)
    have f13 := h1.fr 13 (by decide)
    have f99 := h1.fr 99 (by decide)
    have e1 : (r 1 1).toInt = (sg 1 1).toInt := by rw [f1]
    have e4 : (r 4 2).toInt = (sg 4 2).toInt := by rw [f4]
    refine mkPVXC ⟨⟨h1.1, ⟨by omega, by omega, fun z => by omega, fun _ x hx => h3 x ((cnt_cg (by rw [f1]) (by rw [f11]) (by rw [f13])).mp hx), by rw [f99]; exact g5⟩⟩, h1.2⟩ (by omega)
set_option maxHeartbeats 4000000 in
theorem sX4_spreadUnion_c28_7 {s0 : Sg} {r7 : (Int32 × Int32 × Int32 × Sg) → Option (Sg)} {v2 : Int32} {v3 : Int32} {v4 : Int32} {sg : Sg} (hS : StC MX4_spreadUnion_c28 s0 sg) (v2l : 0 ≤ v2.toInt) (v2h : v2.toInt ≤ 4095) (v3l : 1 ≤ v3.toInt) (v3h : v3.toInt ≤ 32) (v4l : 0 ≤ v4.toInt) (v4h : v4.toInt ≤ 32) (hr7 : ∀ (v2' : Int32) (v3' : Int32) (v4' : Int32) (sg' : Sg), StC MX4_spreadUnion_c28 s0 sg' → 0 ≤ v2'.toInt → v2'.toInt ≤ 4095 → 1 ≤ v3'.toInt → v3'.toInt ≤ 32 → 0 ≤ v4'.toInt → v4'.toInt ≤ 32 → v4.toInt < v4'.toInt → Ok (PVC MX4_spreadUnion_c28 s0) (r7 (v2', v3', v4', sg'))) : Ok (PVC MX4_spreadUnion_c28 s0) (fX4_spreadUnion_c28_7 r7 v2 v3 v4 sg) := by
  unfold fX4_spreadUnion_c28_7
  refine ok_ite (fun c1 => ?_) (fun c1 => ?_)
  · replace c1 := i_le.mp c1
    exact ok_some (mkPVC hS)
  · replace c1 := i_nle.mp c1
    refine ok_gin (by omega) (by omega) ?_
    have f2 := rdC28 hS.1.1 (j := v4.toNatClampNeg)
    have f3 := or_i (a := (sg 28 v4.toNatClampNeg)) (b := v2) 12 4096 (by decide) (by decide) (by omega) (by omega) (by omega) (by omega)
    refine ok_lt (fun x3 ex3 => ?_)
    replace ex3 := congrArg Int32.toInt ex3
    have f4 := add_i (a := v3) (b := v4) (by omega) (by omega)
    refine ok_gin (by omega) (by omega) ?_
    refine ok_lt (fun sg5 esg5 => ?_)
    have hS5 := upC28 hS (by decide) esg5 (by omega) (by omega)
    refine ok_lt (fun x6 ex6 => ?_)
    replace ex6 : x6.toInt = v4.toInt + 1 := by rw [ex6]; exact add_c 1 (by decide) (by omega) (by omega)
    exact hr7 v2 v3 x6 sg5 hS5 (by omega) (by omega) (by omega) (by omega) (by omega) (by omega) (by omega)
set_option maxHeartbeats 4000000 in
theorem sLX4_spreadUnion_c28_7 {s0 : Sg} {v2 : Int32} {v3 : Int32} {v4 : Int32} {sg : Sg} (hS : StC MX4_spreadUnion_c28 s0 sg) (v2l : 0 ≤ v2.toInt) (v2h : v2.toInt ≤ 4095) (v3l : 1 ≤ v3.toInt) (v3h : v3.toInt ≤ 32) (v4l : 0 ≤ v4.toInt) (v4h : v4.toInt ≤ 32) : Ok (PVC MX4_spreadUnion_c28 s0) (LX4_spreadUnion_c28_7 (v2, v3, v4, sg)) := by
  unfold LX4_spreadUnion_c28_7
  refine ok_loop (I := fun (z : Int32 × Int32 × Int32 × Sg) => StC MX4_spreadUnion_c28 s0 z.2.2.2 ∧ 0 ≤ z.1.toInt ∧ z.1.toInt ≤ 4095 ∧ 1 ≤ z.2.1.toInt ∧ z.2.1.toInt ≤ 32 ∧ 0 ≤ z.2.2.1.toInt ∧ z.2.2.1.toInt ≤ 32) (m := fun (z : Int32 × Int32 × Int32 × Sg) => (33 - z.2.2.1.toInt).toNat) _ ?_ ?_ _ ?_
  · intro z hz
    obtain ⟨h0, h1, h2, h3, h4, h5, h6⟩ := hz
    show (33 - z.2.2.1.toInt).toNat < 10000
    omega
  · intro rec z hz hrec
    obtain ⟨v2, v3, v4, sg⟩ := z
    replace hz : StC MX4_spreadUnion_c28 s0 sg ∧ 0 ≤ v2.toInt ∧ v2.toInt ≤ 4095 ∧ 1 ≤ v3.toInt ∧ v3.toInt ≤ 32 ∧ 0 ≤ v4.toInt ∧ v4.toInt ≤ 32 := hz
    obtain ⟨h0, h1, h2, h3, h4, h5, h6⟩ := hz
    show Ok (PVC MX4_spreadUnion_c28 s0) (fX4_spreadUnion_c28_7 rec v2 v3 v4 sg)
    exact sX4_spreadUnion_c28_7 h0 h1 h2 h3 h4 h5 h6 (fun v2' v3' v4' sg' g0 g1 g2 g3 g4 g5 g6 g7 => hrec (v2', v3', v4', sg') ⟨g0, g1, g2, g3, g4, g5, g6⟩ (show (33 - v4'.toInt).toNat < (33 - v4.toInt).toNat by omega))
  · exact ⟨hS, v2l, v2h, v3l, v3h, v4l, v4h⟩
set_option maxHeartbeats 4000000 in
theorem sX4_spreadUnion_c28 {v1 : Int32} {v2 : Int32} {sg : Sg} (hI : IC sg) (v1l : 0 ≤ v1.toInt) (v1h : v1.toInt ≤ 5) (v2l : 0 ≤ v2.toInt) (v2h : v2.toInt ≤ 4095) : Ok (PVC MX4_spreadUnion_c28 sg) (fX4_spreadUnion_c28 v1 v2 sg) := by
  have hS : StC MX4_spreadUnion_c28 sg sg := StC.rf hI
  unfold fX4_spreadUnion_c28
  have f1 := shl_i (v := v1) 5 32 (by decide) (by decide) (by omega) (by omega)
  refine ok_lt (fun x1 ex1 => ?_)
  replace ex1 := congrArg Int32.toInt ex1
  have k2 : (0 : Int32).toInt = 0 := by decide
  exact sLX4_spreadUnion_c28_7 hS (by omega) (by omega) (by omega) (by omega) (by omega) (by omega)
set_option maxHeartbeats 4000000 in
theorem sX4_spreadUnion_c30_7 {s0 : Sg} {r7 : (Int32 × Int32 × Int32 × Sg) → Option (Sg)} {v2 : Int32} {v3 : Int32} {v4 : Int32} {sg : Sg} (hS : StC MX4_spreadUnion_c30 s0 sg) (v2l : 0 ≤ v2.toInt) (v2h : v2.toInt ≤ 4095) (v3l : 1 ≤ v3.toInt) (v3h : v3.toInt ≤ 32) (v4l : 0 ≤ v4.toInt) (v4h : v4.toInt ≤ 32) (hr7 : ∀ (v2' : Int32) (v3' : Int32) (v4' : Int32) (sg' : Sg), StC MX4_spreadUnion_c30 s0 sg' → 0 ≤ v2'.toInt → v2'.toInt ≤ 4095 → 1 ≤ v3'.toInt → v3'.toInt ≤ 32 → 0 ≤ v4'.toInt → v4'.toInt ≤ 32 → v4.toInt < v4'.toInt → Ok (PVC MX4_spreadUnion_c30 s0) (r7 (v2', v3', v4', sg'))) : Ok (PVC MX4_spreadUnion_c30 s0) (fX4_spreadUnion_c30_7 r7 v2 v3 v4 sg) := by
  unfold fX4_spreadUnion_c30_7
  refine ok_ite (fun c1 => ?_) (fun c1 => ?_)
  · replace c1 := i_le.mp c1
    exact ok_some (mkPVC hS)
  · replace c1 := i_nle.mp c1
    refine ok_gin (by omega) (by omega) ?_
    have f2 := rdC30 hS.1.1 (j := v4.toNatClampNeg)
    have f3 := or_i (a := (sg 30 v4.toNatClampNeg)) (b := v2) 12 4096 (by decide) (by decide) (by omega) (by omega) (by omega) (by omega)
    refine ok_lt (fun x3 ex3 => ?_)
    replace ex3 := congrArg Int32.toInt ex3
    have f4 := add_i (a := v3) (b := v4) (by omega) (by omega)
    refine ok_gin (by omega) (by omega) ?_
    refine ok_lt (fun sg5 esg5 => ?_)
    have hS5 := upC30 hS (by decide) esg5 (by omega) (by omega)
    refine ok_lt (fun x6 ex6 => ?_)
    replace ex6 : x6.toInt = v4.toInt + 1 := by rw [ex6]; exact add_c 1 (by decide) (by omega) (by omega)
    exact hr7 v2 v3 x6 sg5 hS5 (by omega) (by omega) (by omega) (by omega) (by omega) (by omega) (by omega)
set_option maxHeartbeats 4000000 in
theorem sLX4_spreadUnion_c30_7 {s0 : Sg} {v2 : Int32} {v3 : Int32} {v4 : Int32} {sg : Sg} (hS : StC MX4_spreadUnion_c30 s0 sg) (v2l : 0 ≤ v2.toInt) (v2h : v2.toInt ≤ 4095) (v3l : 1 ≤ v3.toInt) (v3h : v3.toInt ≤ 32) (v4l : 0 ≤ v4.toInt) (v4h : v4.toInt ≤ 32) : Ok (PVC MX4_spreadUnion_c30 s0) (LX4_spreadUnion_c30_7 (v2, v3, v4, sg)) := by
  unfold LX4_spreadUnion_c30_7
  refine ok_loop (I := fun (z : Int32 × Int32 × Int32 × Sg) => StC MX4_spreadUnion_c30 s0 z.2.2.2 ∧ 0 ≤ z.1.toInt ∧ z.1.toInt ≤ 4095 ∧ 1 ≤ z.2.1.toInt ∧ z.2.1.toInt ≤ 32 ∧ 0 ≤ z.2.2.1.toInt ∧ z.2.2.1.toInt ≤ 32) (m := fun (z : Int32 × Int32 × Int32 × Sg) => (33 - z.2.2.1.toInt).toNat) _ ?_ ?_ _ ?_
  · intro z hz
    obtain ⟨h0, h1, h2, h3, h4, h5, h6⟩ := hz
    show (33 - z.2.2.1.toInt).toNat < 10000
    omega
  · intro rec z hz hrec
    obtain ⟨v2, v3, v4, sg⟩ := z
    replace hz : StC MX4_spreadUnion_c30 s0 sg ∧ 0 ≤ v2.toInt ∧ v2.toInt ≤ 4095 ∧ 1 ≤ v3.toInt ∧ v3.toInt ≤ 32 ∧ 0 ≤ v4.toInt ∧ v4.toInt ≤ 32 := hz
    obtain ⟨h0, h1, h2, h3, h4, h5, h6⟩ := hz
    show Ok (PVC MX4_spreadUnion_c30 s0) (fX4_spreadUnion_c30_7 rec v2 v3 v4 sg)
    exact sX4_spreadUnion_c30_7 h0 h1 h2 h3 h4 h5 h6 (fun v2' v3' v4' sg' g0 g1 g2 g3 g4 g5 g6 g7 => hrec (v2', v3', v4', sg') ⟨g0, g1, g2, g3, g4, g5, g6⟩ (show (33 - v4'.toInt).toNat < (33 - v4.toInt).toNat by omega))
  · exact ⟨hS, v2l, v2h, v3l, v3h, v4l, v4h⟩
set_option maxHeartbeats 4000000 in
theorem sX4_spreadUnion_c30 {v1 : Int32} {v2 : Int32} {sg : Sg} (hI : IC sg) (v1l : 0 ≤ v1.toInt) (v1h : v1.toInt ≤ 5) (v2l : 0 ≤ v2.toInt) (v2h : v2.toInt ≤ 4095) : Ok (PVC MX4_spreadUnion_c30 sg) (fX4_spreadUnion_c30 v1 v2 sg) := by
  have hS : StC MX4_spreadUnion_c30 sg sg := StC.rf hI
  unfold fX4_spreadUnion_c30
  have f1 := shl_i (v := v1) 5 32 (by decide) (by decide) (by omega) (by omega)
  refine ok_lt (fun x1 ex1 => ?_)
  replace ex1 := congrArg Int32.toInt ex1
  have k2 : (0 : Int32).toInt = 0 := by decide
  exact sLX4_spreadUnion_c30_7 hS (by omega) (by omega) (by omega) (by omega) (by omega) (by omega)
set_option maxHeartbeats 4000000 in
theorem sX8_peckOf {v1 : Int32} {v2 : Int32} {sg : Sg} (hI : IC sg) (v1l : 0 ≤ v1.toInt) (v1h : v1.toInt ≤ 11) (v2l : 0 ≤ v2.toInt) (v2h : v2.toInt ≤ 11) : Ok (PUC sg 0 1000000) (fX8_peckOf v1 v2 sg) := by
  unfold fX8_peckOf
  have k1 : (12 : Int32).toInt = 12 := by decide
  have f2 := mul_r (a := v1) (b := (12 : Int32)) 12 (by decide) (by omega) (by omega)
  have f3 := add_i (a := (v1 * (12 : Int32))) (b := v2) (by omega) (by omega)
  refine ok_lt (fun x1 ex1 => ?_)
  replace ex1 := congrArg Int32.toInt ex1
  refine ok_gin (by omega) (by omega) ?_
  have f4 := rdC23 hI.1 (j := x1.toNatClampNeg)
  exact ok_some (mkPUC (by omega) (by omega))
set_option maxHeartbeats 4000000 in
theorem sX4_spreadSum_c26_8 {s0 : Sg} {r8 : (Int32 × Int32 × Int32 × Int32 × Sg) → Option (Sg)} {v1 : Int32} {v3 : Int32} {v4 : Int32} {v5 : Int32} {sg : Sg} (hS : StC MX4_spreadSum_c26 s0 sg) (v1l : 0 ≤ v1.toInt) (v1h : v1.toInt ≤ 704) (v3l : 0 ≤ v3.toInt) (v3h : v3.toInt ≤ 1000000) (v4l : 1 ≤ v4.toInt) (v4h : v4.toInt ≤ 32) (v5l : 0 ≤ v5.toInt) (v5h : v5.toInt ≤ 32) (hr8 : ∀ (v1' : Int32) (v3' : Int32) (v4' : Int32) (v5' : Int32) (sg' : Sg), StC MX4_spreadSum_c26 s0 sg' → 0 ≤ v1'.toInt → v1'.toInt ≤ 704 → 0 ≤ v3'.toInt → v3'.toInt ≤ 1000000 → 1 ≤ v4'.toInt → v4'.toInt ≤ 32 → 0 ≤ v5'.toInt → v5'.toInt ≤ 32 → v5.toInt < v5'.toInt → Ok (PVC MX4_spreadSum_c26 s0) (r8 (v1', v3', v4', v5', sg'))) : Ok (PVC MX4_spreadSum_c26 s0) (fX4_spreadSum_c26_8 r8 v1 v3 v4 v5 sg) := by
  unfold fX4_spreadSum_c26_8
  refine ok_ite (fun c1 => ?_) (fun c1 => ?_)
  · replace c1 := i_le.mp c1
    exact ok_some (mkPVC hS)
  · replace c1 := i_nle.mp c1
    have f2 := add_i (a := v1) (b := v5) (by omega) (by omega)
    refine ok_lt (fun x2 ex2 => ?_)
    replace ex2 := congrArg Int32.toInt ex2
    refine ok_gin (by omega) (by omega) ?_
    refine ok_lt (fun x4 ex4 => ?_)
    replace ex4 := congrArg Int32.toInt ex4
    have f3 := add_i (a := v1) (b := v4) (by omega) (by omega)
    have f4 := add_i (a := (v1 + v4)) (b := v5) (by omega) (by omega)
    refine ok_gin (by omega) (by omega) ?_
    refine ok_lt (fun sg6 esg6 => ?_)
    have hS5 := upC26 hS (by decide) esg6
    refine ok_lt (fun x7 ex7 => ?_)
    replace ex7 : x7.toInt = v5.toInt + 1 := by rw [ex7]; exact add_c 1 (by decide) (by omega) (by omega)
    exact hr8 v1 v3 v4 x7 sg6 hS5 (by omega) (by omega) (by omega) (by omega) (by omega) (by omega) (by omega) (by omega) (by omega)
set_option maxHeartbeats 4000000 in
theorem sLX4_spreadSum_c26_8 {s0 : Sg} {v1 : Int32} {v3 : Int32} {v4 : Int32} {v5 : Int32} {sg : Sg} (hS : StC MX4_spreadSum_c26 s0 sg) (v1l : 0 ≤ v1.toInt) (v1h : v1.toInt ≤ 704) (v3l : 0 ≤ v3.toInt) (v3h : v3.toInt ≤ 1000000) (v4l : 1 ≤ v4.toInt) (v4h : v4.toInt ≤ 32) (v5l : 0 ≤ v5.toInt) (v5h : v5.toInt ≤ 32) : Ok (PVC MX4_spreadSum_c26 s0) (LX4_spreadSum_c26_8 (v1, v3, v4, v5, sg)) := by
  unfold LX4_spreadSum_c26_8
  refine ok_loop (I := fun (z : Int32 × Int32 × Int32 × Int32 × Sg) => StC MX4_spreadSum_c26 s0 z.2.2.2.2 ∧ 0 ≤ z.1.toInt ∧ z.1.toInt ≤ 704 ∧ 0 ≤ z.2.1.toInt ∧ z.2.1.toInt ≤ 1000000 ∧ 1 ≤ z.2.2.1.toInt ∧ z.2.2.1.toInt ≤ 32 ∧ 0 ≤ z.2.2.2.1.toInt ∧ z.2.2.2.1.toInt ≤ 32) (m := fun (z : Int32 × Int32 × Int32 × Int32 × Sg) => (33 - z.2.2.2.1.toInt).toNat) _ ?_ ?_ _ ?_
  · intro z hz
    obtain ⟨h0, h1, h2, h3, h4, h5, h6, h7, h8⟩ := hz
    show (33 - z.2.2.2.1.toInt).toNat < 10000
    omega
  · intro rec z hz hrec
    obtain ⟨v1, v3, v4, v5, sg⟩ := z
    replace hz : StC MX4_spreadSum_c26 s0 sg ∧ 0 ≤ v1.toInt ∧ v1.toInt ≤ 704 ∧ 0 ≤ v3.toInt ∧ v3.toInt ≤ 1000000 ∧ 1 ≤ v4.toInt ∧ v4.toInt ≤ 32 ∧ 0 ≤ v5.toInt ∧ v5.toInt ≤ 32 := hz
    obtain ⟨h0, h1, h2, h3, h4, h5, h6, h7, h8⟩ := hz
    show Ok (PVC MX4_spreadSum_c26 s0) (fX4_spreadSum_c26_8 rec v1 v3 v4 v5 sg)
    exact sX4_spreadSum_c26_8 h0 h1 h2 h3 h4 h5 h6 h7 h8 (fun v1' v3' v4' v5' sg' g0 g1 g2 g3 g4 g5 g6 g7 g8 g9 => hrec (v1', v3', v4', v5', sg') ⟨g0, g1, g2, g3, g4, g5, g6, g7, g8⟩ (show (33 - v5'.toInt).toNat < (33 - v5.toInt).toNat by omega))
  · exact ⟨hS, v1l, v1h, v3l, v3h, v4l, v4h, v5l, v5h⟩
set_option maxHeartbeats 4000000 in
theorem sX4_spreadSum_c26 {v1 : Int32} {v2 : Int32} {v3 : Int32} {sg : Sg} (hI : IC sg) (v1l : 0 ≤ v1.toInt) (v1h : v1.toInt ≤ 704) (v2l : 0 ≤ v2.toInt) (v2h : v2.toInt ≤ 5) (v3l : 0 ≤ v3.toInt) (v3h : v3.toInt ≤ 1000000) : Ok (PVC MX4_spreadSum_c26 sg) (fX4_spreadSum_c26 v1 v2 v3 sg) := by
  have hS : StC MX4_spreadSum_c26 sg sg := StC.rf hI
  unfold fX4_spreadSum_c26
  have f1 := shl_i (v := v2) 5 32 (by decide) (by decide) (by omega) (by omega)
  refine ok_lt (fun x1 ex1 => ?_)
  replace ex1 := congrArg Int32.toInt ex1
  have k2 : (0 : Int32).toInt = 0 := by decide
  exact sLX4_spreadSum_c26_8 hS (by omega) (by omega) (by omega) (by omega) (by omega) (by omega) (by omega) (by omega)
set_option maxHeartbeats 4000000 in
theorem sX4_spreadSum_c25_8 {s0 : Sg} {r8 : (Int32 × Int32 × Int32 × Int32 × Sg) → Option (Sg)} {v1 : Int32} {v3 : Int32} {v4 : Int32} {v5 : Int32} {sg : Sg} (hS : StC MX4_spreadSum_c25 s0 sg) (v1l : 0 ≤ v1.toInt) (v1h : v1.toInt ≤ 704) (v3l : 0 ≤ v3.toInt) (v3h : v3.toInt ≤ 1000000) (v4l : 1 ≤ v4.toInt) (v4h : v4.toInt ≤ 32) (v5l : 0 ≤ v5.toInt) (v5h : v5.toInt ≤ 32) (hr8 : ∀ (v1' : Int32) (v3' : Int32) (v4' : Int32) (v5' : Int32) (sg' : Sg), StC MX4_spreadSum_c25 s0 sg' → 0 ≤ v1'.toInt → v1'.toInt ≤ 704 → 0 ≤ v3'.toInt → v3'.toInt ≤ 1000000 → 1 ≤ v4'.toInt → v4'.toInt ≤ 32 → 0 ≤ v5'.toInt → v5'.toInt ≤ 32 → v5.toInt < v5'.toInt → Ok (PVC MX4_spreadSum_c25 s0) (r8 (v1', v3', v4', v5', sg'))) : Ok (PVC MX4_spreadSum_c25 s0) (fX4_spreadSum_c25_8 r8 v1 v3 v4 v5 sg) := by
  unfold fX4_spreadSum_c25_8
  refine ok_ite (fun c1 => ?_) (fun c1 => ?_)
  · replace c1 := i_le.mp c1
    exact ok_some (mkPVC hS)
  · replace c1 := i_nle.mp c1
    have f2 := add_i (a := v1) (b := v5) (by omega) (by omega)
    refine ok_lt (fun x2 ex2 => ?_)
    replace ex2 := congrArg Int32.toInt ex2
    refine ok_gin (by omega) (by omega) ?_
    refine ok_lt (fun x4 ex4 => ?_)
    replace ex4 := congrArg Int32.toInt ex4
    have f3 := add_i (a := v1) (b := v4) (by omega) (by omega)
    have f4 := add_i (a := (v1 + v4)) (b := v5) (by omega) (by omega)
    refine ok_gin (by omega) (by omega) ?_
    refine ok_lt (fun sg6 esg6 => ?_)
    have hS5 := upC25 hS (by decide) esg6
    refine ok_lt (fun x7 ex7 => ?_)
    replace ex7 : x7.toInt = v5.toInt + 1 := by rw [ex7]; exact add_c 1 (by decide) (by omega) (by omega)
    exact hr8 v1 v3 v4 x7 sg6 hS5 (by omega) (by omega) (by omega) (by omega) (by omega) (by omega) (by omega) (by omega) (by omega)
set_option maxHeartbeats 4000000 in
theorem sLX4_spreadSum_c25_8 {s0 : Sg} {v1 : Int32} {v3 : Int32} {v4 : Int32} {v5 : Int32} {sg : Sg} (hS : StC MX4_spreadSum_c25 s0 sg) (v1l : 0 ≤ v1.toInt) (v1h : v1.toInt ≤ 704) (v3l : 0 ≤ v3.toInt) (v3h : v3.toInt ≤ 1000000) (v4l : 1 ≤ v4.toInt) (v4h : v4.toInt ≤ 32) (v5l : 0 ≤ v5.toInt) (v5h : v5.toInt ≤ 32) : Ok (PVC MX4_spreadSum_c25 s0) (LX4_spreadSum_c25_8 (v1, v3, v4, v5, sg)) := by
  unfold LX4_spreadSum_c25_8
  refine ok_loop (I := fun (z : Int32 × Int32 × Int32 × Int32 × Sg) => StC MX4_spreadSum_c25 s0 z.2.2.2.2 ∧ 0 ≤ z.1.toInt ∧ z.1.toInt ≤ 704 ∧ 0 ≤ z.2.1.toInt ∧ z.2.1.toInt ≤ 1000000 ∧ 1 ≤ z.2.2.1.toInt ∧ z.2.2.1.toInt ≤ 32 ∧ 0 ≤ z.2.2.2.1.toInt ∧ z.2.2.2.1.toInt ≤ 32) (m := fun (z : Int32 × Int32 × Int32 × Int32 × Sg) => (33 - z.2.2.2.1.toInt).toNat) _ ?_ ?_ _ ?_
  · intro z hz
    obtain ⟨h0, h1, h2, h3, h4, h5, h6, h7, h8⟩ := hz
    show (33 - z.2.2.2.1.toInt).toNat < 10000
    omega
  · intro rec z hz hrec
    obtain ⟨v1, v3, v4, v5, sg⟩ := z
    replace hz : StC MX4_spreadSum_c25 s0 sg ∧ 0 ≤ v1.toInt ∧ v1.toInt ≤ 704 ∧ 0 ≤ v3.toInt ∧ v3.toInt ≤ 1000000 ∧ 1 ≤ v4.toInt ∧ v4.toInt ≤ 32 ∧ 0 ≤ v5.toInt ∧ v5.toInt ≤ 32 := hz
    obtain ⟨h0, h1, h2, h3, h4, h5, h6, h7, h8⟩ := hz
    show Ok (PVC MX4_spreadSum_c25 s0) (fX4_spreadSum_c25_8 rec v1 v3 v4 v5 sg)
    exact sX4_spreadSum_c25_8 h0 h1 h2 h3 h4 h5 h6 h7 h8 (fun v1' v3' v4' v5' sg' g0 g1 g2 g3 g4 g5 g6 g7 g8 g9 => hrec (v1', v3', v4', v5', sg') ⟨g0, g1, g2, g3, g4, g5, g6, g7, g8⟩ (show (33 - v5'.toInt).toNat < (33 - v5.toInt).toNat by omega))
  · exact ⟨hS, v1l, v1h, v3l, v3h, v4l, v4h, v5l, v5h⟩
set_option maxHeartbeats 4000000 in
theorem sX4_spreadSum_c25 {v1 : Int32} {v2 : Int32} {v3 : Int32} {sg : Sg} (hI : IC sg) (v1l : 0 ≤ v1.toInt) (v1h : v1.toInt ≤ 704) (v2l : 0 ≤ v2.toInt) (v2h : v2.toInt ≤ 5) (v3l : 0 ≤ v3.toInt) (v3h : v3.toInt ≤ 1000000) : Ok (PVC MX4_spreadSum_c25 sg) (fX4_spreadSum_c25 v1 v2 v3 sg) := by
  have hS : StC MX4_spreadSum_c25 sg sg := StC.rf hI
  unfold fX4_spreadSum_c25
  have f1 := shl_i (v := v2) 5 32 (by decide) (by decide) (by omega) (by omega)
  refine ok_lt (fun x1 ex1 => ?_)
  replace ex1 := congrArg Int32.toInt ex1
  have k2 : (0 : Int32).toInt = 0 := by decide
  exact sLX4_spreadSum_c25_8 hS (by omega) (by omega) (by omega) (by omega) (by omega) (by omega) (by omega) (by omega)
set_option maxHeartbeats 4000000 in
theorem sX4_spreadUnion_c29_7 {s0 : Sg} {r7 : (Int32 × Int32 × Int32 × Sg) → Option (Sg)} {v2 : Int32} {v3 : Int32} {v4 : Int32} {sg : Sg} (hS : StC MX4_spreadUnion_c29 s0 sg) (v2l : 0 ≤ v2.toInt) (v2h : v2.toInt ≤ 4095) (v3l : 1 ≤ v3.toInt) (v3h : v3.toInt ≤ 32) (v4l : 0 ≤ v4.toInt) (v4h : v4.toInt ≤ 32) (hr7 : ∀ (v2' : Int32) (v3' : Int32) (v4' : Int32) (sg' : Sg), StC MX4_spreadUnion_c29 s0 sg' → 0 ≤ v2'.toInt → v2'.toInt ≤ 4095 → 1 ≤ v3'.toInt → v3'.toInt ≤ 32 → 0 ≤ v4'.toInt → v4'.toInt ≤ 32 → v4.toInt < v4'.toInt → Ok (PVC MX4_spreadUnion_c29 s0) (r7 (v2', v3', v4', sg'))) : Ok (PVC MX4_spreadUnion_c29 s0) (fX4_spreadUnion_c29_7 r7 v2 v3 v4 sg) := by
  unfold fX4_spreadUnion_c29_7
  refine ok_ite (fun c1 => ?_) (fun c1 => ?_)
  · replace c1 := i_le.mp c1
    exact ok_some (mkPVC hS)
  · replace c1 := i_nle.mp c1
    refine ok_gin (by omega) (by omega) ?_
    have f2 := rdC29 hS.1.1 (j := v4.toNatClampNeg)
    have f3 := or_i (a := (sg 29 v4.toNatClampNeg)) (b := v2) 12 4096 (by decide) (by decide) (by omega) (by omega) (by omega) (by omega)
    refine ok_lt (fun x3 ex3 => ?_)
    replace ex3 := congrArg Int32.toInt ex3
    have f4 := add_i (a := v3) (b := v4) (by omega) (by omega)
    refine ok_gin (by omega) (by omega) ?_
    refine ok_lt (fun sg5 esg5 => ?_)
    have hS5 := upC29 hS (by decide) esg5 (by omega) (by omega)
    refine ok_lt (fun x6 ex6 => ?_)
    replace ex6 : x6.toInt = v4.toInt + 1 := by rw [ex6]; exact add_c 1 (by decide) (by omega) (by omega)
    exact hr7 v2 v3 x6 sg5 hS5 (by omega) (by omega) (by omega) (by omega) (by omega) (by omega) (by omega)
set_option maxHeartbeats 4000000 in
theorem sLX4_spreadUnion_c29_7 {s0 : Sg} {v2 : Int32} {v3 : Int32} {v4 : Int32} {sg : Sg} (hS : StC MX4_spreadUnion_c29 s0 sg) (v2l : 0 ≤ v2.toInt) (v2h : v2.toInt ≤ 4095) (v3l : 1 ≤ v3.toInt) (v3h : v3.toInt ≤ 32) (v4l : 0 ≤ v4.toInt) (v4h : v4.toInt ≤ 32) : Ok (PVC MX4_spreadUnion_c29 s0) (LX4_spreadUnion_c29_7 (v2, v3, v4, sg)) := by
  unfold LX4_spreadUnion_c29_7
  refine ok_loop (I := fun (z : Int32 × Int32 × Int32 × Sg) => StC MX4_spreadUnion_c29 s0 z.2.2.2 ∧ 0 ≤ z.1.toInt ∧ z.1.toInt ≤ 4095 ∧ 1 ≤ z.2.1.toInt ∧ z.2.1.toInt ≤ 32 ∧ 0 ≤ z.2.2.1.toInt ∧ z.2.2.1.toInt ≤ 32) (m := fun (z : Int32 × Int32 × Int32 × Sg) => (33 - z.2.2.1.toInt).toNat) _ ?_ ?_ _ ?_
  · intro z hz
    obtain ⟨h0, h1, h2, h3, h4, h5, h6⟩ := hz
    show (33 - z.2.2.1.toInt).toNat < 10000
    omega
  · intro rec z hz hrec
    obtain ⟨v2, v3, v4, sg⟩ := z
    replace hz : StC MX4_spreadUnion_c29 s0 sg ∧ 0 ≤ v2.toInt ∧ v2.toInt ≤ 4095 ∧ 1 ≤ v3.toInt ∧ v3.toInt ≤ 32 ∧ 0 ≤ v4.toInt ∧ v4.toInt ≤ 32 := hz
    obtain ⟨h0, h1, h2, h3, h4, h5, h6⟩ := hz
    show Ok (PVC MX4_spreadUnion_c29 s0) (fX4_spreadUnion_c29_7 rec v2 v3 v4 sg)
    exact sX4_spreadUnion_c29_7 h0 h1 h2 h3 h4 h5 h6 (fun v2' v3' v4' sg' g0 g1 g2 g3 g4 g5 g6 g7 => hrec (v2', v3', v4', sg') ⟨g0, g1, g2, g3, g4, g5, g6⟩ (show (33 - v4'.toInt).toNat < (33 - v4.toInt).toNat by omega))
  · exact ⟨hS, v2l, v2h, v3l, v3h, v4l, v4h⟩
set_option maxHeartbeats 4000000 in
theorem sX4_spreadUnion_c29 {v1 : Int32} {v2 : Int32} {sg : Sg} (hI : IC sg) (v1l : 0 ≤ v1.toInt) (v1h : v1.toInt ≤ 5) (v2l : 0 ≤ v2.toInt) (v2h : v2.toInt ≤ 4095) : Ok (PVC MX4_spreadUnion_c29 sg) (fX4_spreadUnion_c29 v1 v2 sg) := by
  have hS : StC MX4_spreadUnion_c29 sg sg := StC.rf hI
  unfold fX4_spreadUnion_c29
  have f1 := shl_i (v := v1) 5 32 (by decide) (by decide) (by omega) (by omega)
  refine ok_lt (fun x1 ex1 => ?_)
  replace ex1 := congrArg Int32.toInt ex1
  have k2 : (0 : Int32).toInt = 0 := by decide
  exact sLX4_spreadUnion_c29_7 hS (by omega) (by omega) (by omega) (by omega) (by omega) (by omega)
set_option maxHeartbeats 4000000 in
theorem sX4_spreadUnion_c27_7 {s0 : Sg} {r7 : (Int32 × Int32 × Int32 × Sg) → Option (Sg)} {v2 : Int32} {v3 : Int32} {v4 : Int32} {sg : Sg} (hS : StC MX4_spreadUnion_c27 s0 sg) (v2l : 0 ≤ v2.toInt) (v2h : v2.toInt ≤ 4095) (v3l : 1 ≤ v3.toInt) (v3h : v3.toInt ≤ 32) (v4l : 0 ≤ v4.toInt) (v4h : v4.toInt ≤ 32) (hr7 : ∀ (v2' : Int32) (v3' : Int32) (v4' : Int32) (sg' : Sg), StC MX4_spreadUnion_c27 s0 sg' → 0 ≤ v2'.toInt → v2'.toInt ≤ 4095 → 1 ≤ v3'.toInt → v3'.toInt ≤ 32 → 0 ≤ v4'.toInt → v4'.toInt ≤ 32 → v4.toInt < v4'.toInt → Ok (PVC MX4_spreadUnion_c27 s0) (r7 (v2', v3', v4', sg'))) : Ok (PVC MX4_spreadUnion_c27 s0) (fX4_spreadUnion_c27_7 r7 v2 v3 v4 sg) := by
  unfold fX4_spreadUnion_c27_7
  refine ok_ite (fun c1 => ?_) (fun c1 => ?_)
  · replace c1 := i_le.mp c1
    exact ok_some (mkPVC hS)
  · replace c1 := i_nle.mp c1
    refine ok_gin (by omega) (by omega) ?_
    have f2 := rdC27 hS.1.1 (j := v4.toNatClampNeg)
    have f3 := or_i (a := (sg 27 v4.toNatClampNeg)) (b := v2) 12 4096 (by decide) (by decide) (by omega) (by omega) (by omega) (by omega)
    refine ok_lt (fun x3 ex3 => ?_)
    replace ex3 := congrArg Int32.toInt ex3
    have f4 := add_i (a := v3) (b := v4) (by omega) (by omega)
    refine ok_gin (by omega) (by omega) ?_
    refine ok_lt (fun sg5 esg5 => ?_)
    have hS5 := upC27 hS (by decide) esg5 (by omega) (by omega)
    refine ok_lt (fun x6 ex6 => ?_)
    replace ex6 : x6.toInt = v4.toInt + 1 := by rw [ex6]; exact add_c 1 (by decide) (by omega) (by omega)
    exact hr7 v2 v3 x6 sg5 hS5 (by omega) (by omega) (by omega) (by omega) (by omega) (by omega) (by omega)
set_option maxHeartbeats 4000000 in
theorem sLX4_spreadUnion_c27_7 {s0 : Sg} {v2 : Int32} {v3 : Int32} {v4 : Int32} {sg : Sg} (hS : StC MX4_spreadUnion_c27 s0 sg) (v2l : 0 ≤ v2.toInt) (v2h : v2.toInt ≤ 4095) (v3l : 1 ≤ v3.toInt) (v3h : v3.toInt ≤ 32) (v4l : 0 ≤ v4.toInt) (v4h : v4.toInt ≤ 32) : Ok (PVC MX4_spreadUnion_c27 s0) (LX4_spreadUnion_c27_7 (v2, v3, v4, sg)) := by
  unfold LX4_spreadUnion_c27_7
  refine ok_loop (I := fun (z : Int32 × Int32 × Int32 × Sg) => StC MX4_spreadUnion_c27 s0 z.2.2.2 ∧ 0 ≤ z.1.toInt ∧ z.1.toInt ≤ 4095 ∧ 1 ≤ z.2.1.toInt ∧ z.2.1.toInt ≤ 32 ∧ 0 ≤ z.2.2.1.toInt ∧ z.2.2.1.toInt ≤ 32) (m := fun (z : Int32 × Int32 × Int32 × Sg) => (33 - z.2.2.1.toInt).toNat) _ ?_ ?_ _ ?_
  · intro z hz
    obtain ⟨h0, h1, h2, h3, h4, h5, h6⟩ := hz
    show (33 - z.2.2.1.toInt).toNat < 10000
    omega
  · intro rec z hz hrec
    obtain ⟨v2, v3, v4, sg⟩ := z
    replace hz : StC MX4_spreadUnion_c27 s0 sg ∧ 0 ≤ v2.toInt ∧ v2.toInt ≤ 4095 ∧ 1 ≤ v3.toInt ∧ v3.toInt ≤ 32 ∧ 0 ≤ v4.toInt ∧ v4.toInt ≤ 32 := hz
    obtain ⟨h0, h1, h2, h3, h4, h5, h6⟩ := hz
    show Ok (PVC MX4_spreadUnion_c27 s0) (fX4_spreadUnion_c27_7 rec v2 v3 v4 sg)
    exact sX4_spreadUnion_c27_7 h0 h1 h2 h3 h4 h5 h6 (fun v2' v3' v4' sg' g0 g1 g2 g3 g4 g5 g6 g7 => hrec (v2', v3', v4', sg') ⟨g0, g1, g2, g3, g4, g5, g6⟩ (show (33 - v4'.toInt).toNat < (33 - v4.toInt).toNat by omega))
  · exact ⟨hS, v2l, v2h, v3l, v3h, v4l, v4h⟩
set_option maxHeartbeats 4000000 in
theorem sX4_spreadUnion_c27 {v1 : Int32} {v2 : Int32} {sg : Sg} (hI : IC sg) (v1l : 0 ≤ v1.toInt) (v1h : v1.toInt ≤ 5) (v2l : 0 ≤ v2.toInt) (v2h : v2.toInt ≤ 4095) : Ok (PVC MX4_spreadUnion_c27 sg) (fX4_spreadUnion_c27 v1 v2 sg) := by
  have hS : StC MX4_spreadUnion_c27 sg sg := StC.rf hI
  unfold fX4_spreadUnion_c27
  have f1 := shl_i (v := v1) 5 32 (by decide) (by decide) (by omega) (by omega)
  refine ok_lt (fun x1 ex1 => ?_)
  replace ex1 := congrArg Int32.toInt ex1
  have k2 : (0 : Int32).toInt = 0 := by decide
  exact sLX4_spreadUnion_c27_7 hS (by omega) (by omega) (by omega) (by omega) (by omega) (by omega)
