set_option maxHeartbeats 4000000 in
theorem sX12_betters_124 {s0 : Sg} {l0 : Lg} {r13 : (Int64 × Int32 × Int32 × Int32 × Sg × Lg) → Option (Int32 × Sg × Lg)} {r25 : (Int64 × Int32 × Int32 × Int32 × Int32 × Sg × Lg) → Option (Int32 × Sg × Lg)} {v1 : Int64} {v3 : Int32} {v4 : Int32} {v5 : Int32} {v6 : Int32} {v8 : Int64} {v10 : Int32} {w0 : Int32} {sg : Sg} {lg : Lg} (hS : StM MX12_betters s0 l0 sg lg) (v3l : (-1) ≤ v3.toInt) (v3h : v3.toInt ≤ 11) (v4l : (-1) ≤ v4.toInt) (v4h : v4.toInt ≤ 11) (v5l : 0 ≤ v5.toInt) (v5h : v5.toInt ≤ 11) (v6l : 0 ≤ v6.toInt) (v6h : v6.toInt ≤ 11) (v10l : 0 ≤ v10.toInt) (v10h : v10.toInt ≤ 1) (w0l : 0 ≤ w0.toInt) (w0h : w0.toInt ≤ 1) (xt : v3.toInt = -1 ∨ 0 ≤ v4.toInt) (hr13 : ∀ (v1' : Int64) (v3' : Int32) (v4' : Int32) (v5' : Int32) (sg' : Sg) (lg' : Lg), StM MX12_betters s0 l0 sg' lg' → (-1) ≤ v3'.toInt → v3'.toInt ≤ 11 → (-1) ≤ v4'.toInt → v4'.toInt ≤ 11 → 0 ≤ v5'.toInt → v5'.toInt ≤ 12 → (v3'.toInt = -1 ∨ 0 ≤ v4'.toInt) → v5.toInt < v5'.toInt → Ok (PIM MX12_betters s0 l0 0 1) (r13 (v1', v3', v4', v5', sg', lg'))) (hr25 : ∀ (v1' : Int64) (v3' : Int32) (v4' : Int32) (v5' : Int32) (v6' : Int32) (sg' : Sg) (lg' : Lg), StM MX12_betters s0 l0 sg' lg' → (-1) ≤ v3'.toInt → v3'.toInt ≤ 11 → (-1) ≤ v4'.toInt → v4'.toInt ≤ 11 → 0 ≤ v5'.toInt → v5'.toInt ≤ 11 → 0 ≤ v6'.toInt → v6'.toInt ≤ 12 → (v3'.toInt = -1 ∨ 0 ≤ v4'.toInt) → (∀ (v1'' : Int64) (v3'' : Int32) (v4'' : Int32) (v5'' : Int32) (sg'' : Sg) (lg'' : Lg), StM MX12_betters s0 l0 sg'' lg'' → (-1) ≤ v3''.toInt → v3''.toInt ≤ 11 → (-1) ≤ v4''.toInt → v4''.toInt ≤ 11 → 0 ≤ v5''.toInt → v5''.toInt ≤ 12 → (v3''.toInt = -1 ∨ 0 ≤ v4''.toInt) → v5'.toInt < v5''.toInt → Ok (PIM MX12_betters s0 l0 0 1) (r13 (v1'', v3'', v4'', v5'', sg'', lg''))) → v6.toInt < v6'.toInt → Ok (PIM MX12_betters s0 l0 0 1) (r25 (v1', v3', v4', v5', v6', sg', lg'))) : Ok (PIM MX12_betters s0 l0 0 1) (fX12_betters_124 r13 r25 v1 v3 v4 v5 v6 v8 v10 w0 sg lg) := by
  unfold fX12_betters_124
  refine ok_ite (fun c1 => ?_) (fun c1 => ?_)
  · replace c1 := i_eq.mp c1
    exact sX12_betters_160 hS (by omega) (by omega) (by omega) (by omega) (by omega) (by omega) (by omega) (by omega) (by omega) hr13 hr25
  · replace c1 := i_ne.mp c1
    refine ok_ite (fun c2 => ?_) (fun c2 => ?_)
    · have k3 : (0 : Int32).toInt = 0 := by decide
      replace c2 := i_eq.mp c2
      exact sX12_betters_160 hS (by omega) (by omega) (by omega) (by omega) (by omega) (by omega) (by omega) (by omega) (by omega) hr13 hr25
    · have k4 : (0 : Int32).toInt = 0 := by decide
      replace c2 := i_ne.mp c2
      refine ok_ite (fun c5 => ?_) (fun c5 => ?_)
      · replace c5 := j_lt.mp c5
        exact sX12_betters_150 hS (by omega) (by omega) (by omega) (by omega) hr13 hr25
      · replace c5 := j_nlt.mp c5
        refine ok_ite (fun c6 => ?_) (fun c6 => ?_)
        · replace c6 := i_eq.mp c6
          exact sX12_betters_160 hS (by omega) (by omega) (by omega) (by omega) (by omega) (by omega) (by omega) (by omega) (by omega) hr13 hr25
        · replace c6 := i_ne.mp c6
          exact sX12_betters_150 hS (by omega) (by omega) (by omega) (by omega) hr13 hr25
set_option maxHeartbeats 4000000 in
theorem sX12_betters_123 {s0 : Sg} {l0 : Lg} {r13 : (Int64 × Int32 × Int32 × Int32 × Sg × Lg) → Option (Int32 × Sg × Lg)} {r25 : (Int64 × Int32 × Int32 × Int32 × Int32 × Sg × Lg) → Option (Int32 × Sg × Lg)} {v1 : Int64} {v3 : Int32} {v4 : Int32} {v5 : Int32} {v6 : Int32} {v8 : Int64} {v10 : Int32} {sg : Sg} {lg : Lg} (hS : StM MX12_betters s0 l0 sg lg) (v3l : (-1) ≤ v3.toInt) (v3h : v3.toInt ≤ 11) (v4l : (-1) ≤ v4.toInt) (v4h : v4.toInt ≤ 11) (v5l : 0 ≤ v5.toInt) (v5h : v5.toInt ≤ 11) (v6l : 0 ≤ v6.toInt) (v6h : v6.toInt ≤ 11) (v10l : 0 ≤ v10.toInt) (v10h : v10.toInt ≤ 1) (xt : v3.toInt = -1 ∨ 0 ≤ v4.toInt) (hr13 : ∀ (v1' : Int64) (v3' : Int32) (v4' : Int32) (v5' : Int32) (sg' : Sg) (lg' : Lg), StM MX12_betters s0 l0 sg' lg' → (-1) ≤ v3'.toInt → v3'.toInt ≤ 11 → (-1) ≤ v4'.toInt → v4'.toInt ≤ 11 → 0 ≤ v5'.toInt → v5'.toInt ≤ 12 → (v3'.toInt = -1 ∨ 0 ≤ v4'.toInt) → v5.toInt < v5'.toInt → Ok (PIM MX12_betters s0 l0 0 1) (r13 (v1', v3', v4', v5', sg', lg'))) (hr25 : ∀ (v1' : Int64) (v3' : Int32) (v4' : Int32) (v5' : Int32) (v6' : Int32) (sg' : Sg) (lg' : Lg), StM MX12_betters s0 l0 sg' lg' → (-1) ≤ v3'.toInt → v3'.toInt ≤ 11 → (-1) ≤ v4'.toInt → v4'.toInt ≤ 11 → 0 ≤ v5'.toInt → v5'.toInt ≤ 11 → 0 ≤ v6'.toInt → v6'.toInt ≤ 12 → (v3'.toInt = -1 ∨ 0 ≤ v4'.toInt) → (∀ (v1'' : Int64) (v3'' : Int32) (v4'' : Int32) (v5'' : Int32) (sg'' : Sg) (lg'' : Lg), StM MX12_betters s0 l0 sg'' lg'' → (-1) ≤ v3''.toInt → v3''.toInt ≤ 11 → (-1) ≤ v4''.toInt → v4''.toInt ≤ 11 → 0 ≤ v5''.toInt → v5''.toInt ≤ 12 → (v3''.toInt = -1 ∨ 0 ≤ v4''.toInt) → v5'.toInt < v5''.toInt → Ok (PIM MX12_betters s0 l0 0 1) (r13 (v1'', v3'', v4'', v5'', sg'', lg''))) → v6.toInt < v6'.toInt → Ok (PIM MX12_betters s0 l0 0 1) (r25 (v1', v3', v4', v5', v6', sg', lg'))) : Ok (PIM MX12_betters s0 l0 0 1) (fX12_betters_123 r13 r25 v1 v3 v4 v5 v6 v8 v10 sg lg) := by
  unfold fX12_betters_123
  have k1 : (0 : Int32).toInt = 0 := by decide
  exact sX12_betters_124 hS (by omega) (by omega) (by omega) (by omega) (by omega) (by omega) (by omega) (by omega) (by omega) (by omega) (by omega) (by omega) (by omega) hr13 hr25
set_option maxHeartbeats 4000000 in
theorem sX12_betters_119 {s0 : Sg} {l0 : Lg} {r13 : (Int64 × Int32 × Int32 × Int32 × Sg × Lg) → Option (Int32 × Sg × Lg)} {r25 : (Int64 × Int32 × Int32 × Int32 × Int32 × Sg × Lg) → Option (Int32 × Sg × Lg)} {v1 : Int64} {v3 : Int32} {v4 : Int32} {v5 : Int32} {v6 : Int32} {v8 : Int64} {v10 : Int32} {sg : Sg} {lg : Lg} (hS : StM MX12_betters s0 l0 sg lg) (v3l : 0 ≤ v3.toInt) (v3h : v3.toInt ≤ 11) (v4l : (-1) ≤ v4.toInt) (v4h : v4.toInt ≤ 11) (v5l : 0 ≤ v5.toInt) (v5h : v5.toInt ≤ 11) (v6l : 0 ≤ v6.toInt) (v6h : v6.toInt ≤ 11) (v10l : 0 ≤ v10.toInt) (v10h : v10.toInt ≤ 1) (xt : v3.toInt = -1 ∨ 0 ≤ v4.toInt) (hr13 : ∀ (v1' : Int64) (v3' : Int32) (v4' : Int32) (v5' : Int32) (sg' : Sg) (lg' : Lg), StM MX12_betters s0 l0 sg' lg' → (-1) ≤ v3'.toInt → v3'.toInt ≤ 11 → (-1) ≤ v4'.toInt → v4'.toInt ≤ 11 → 0 ≤ v5'.toInt → v5'.toInt ≤ 12 → (v3'.toInt = -1 ∨ 0 ≤ v4'.toInt) → v5.toInt < v5'.toInt → Ok (PIM MX12_betters s0 l0 0 1) (r13 (v1', v3', v4', v5', sg', lg'))) (hr25 : ∀ (v1' : Int64) (v3' : Int32) (v4' : Int32) (v5' : Int32) (v6' : Int32) (sg' : Sg) (lg' : Lg), StM MX12_betters s0 l0 sg' lg' → (-1) ≤ v3'.toInt → v3'.toInt ≤ 11 → (-1) ≤ v4'.toInt → v4'.toInt ≤ 11 → 0 ≤ v5'.toInt → v5'.toInt ≤ 11 → 0 ≤ v6'.toInt → v6'.toInt ≤ 12 → (v3'.toInt = -1 ∨ 0 ≤ v4'.toInt) → (∀ (v1'' : Int64) (v3'' : Int32) (v4'' : Int32) (v5'' : Int32) (sg'' : Sg) (lg'' : Lg), StM MX12_betters s0 l0 sg'' lg'' → (-1) ≤ v3''.toInt → v3''.toInt ≤ 11 → (-1) ≤ v4''.toInt → v4''.toInt ≤ 11 → 0 ≤ v5''.toInt → v5''.toInt ≤ 12 → (v3''.toInt = -1 ∨ 0 ≤ v4''.toInt) → v5'.toInt < v5''.toInt → Ok (PIM MX12_betters s0 l0 0 1) (r13 (v1'', v3'', v4'', v5'', sg'', lg''))) → v6.toInt < v6'.toInt → Ok (PIM MX12_betters s0 l0 0 1) (r25 (v1', v3', v4', v5', v6', sg', lg'))) : Ok (PIM MX12_betters s0 l0 0 1) (fX12_betters_119 r13 r25 v1 v3 v4 v5 v6 v8 v10 sg lg) := by
  unfold fX12_betters_119
  have k1 : (1 : Int32).toInt = 1 := by decide
  exact sX12_betters_124 hS (by omega) (by omega) (by omega) (by omega) (by omega) (by omega) (by omega) (by omega) (by omega) (by omega) (by omega) (by omega) (by omega) hr13 hr25
set_option maxHeartbeats 4000000 in
theorem sX12_betters_69 {s0 : Sg} {l0 : Lg} {r13 : (Int64 × Int32 × Int32 × Int32 × Sg × Lg) → Option (Int32 × Sg × Lg)} {r25 : (Int64 × Int32 × Int32 × Int32 × Int32 × Sg × Lg) → Option (Int32 × Sg × Lg)} {v1 : Int64} {v3 : Int32} {v4 : Int32} {v5 : Int32} {v6 : Int32} {v7 : Int32} {v8 : Int64} {w0 : Int32} {sg : Sg} {lg : Lg} (hS : StM MX12_betters s0 l0 sg lg) (v3l : (-1) ≤ v3.toInt) (v3h : v3.toInt ≤ 11) (v4l : (-1) ≤ v4.toInt) (v4h : v4.toInt ≤ 11) (v5l : 0 ≤ v5.toInt) (v5h : v5.toInt ≤ 11) (v6l : 0 ≤ v6.toInt) (v6h : v6.toInt ≤ 11) (v7l : 0 ≤ v7.toInt) (v7h : v7.toInt ≤ 11) (w0l : 0 ≤ w0.toInt) (w0h : w0.toInt ≤ 1) (xt : v3.toInt = -1 ∨ 0 ≤ v4.toInt) (hr13 : ∀ (v1' : Int64) (v3' : Int32) (v4' : Int32) (v5' : Int32) (sg' : Sg) (lg' : Lg), StM MX12_betters s0 l0 sg' lg' → (-1) ≤ v3'.toInt → v3'.toInt ≤ 11 → (-1) ≤ v4'.toInt → v4'.toInt ≤ 11 → 0 ≤ v5'.toInt → v5'.toInt ≤ 12 → (v3'.toInt = -1 ∨ 0 ≤ v4'.toInt) → v5.toInt < v5'.toInt → Ok (PIM MX12_betters s0 l0 0 1) (r13 (v1', v3', v4', v5', sg', lg'))) (hr25 : ∀ (v1' : Int64) (v3' : Int32) (v4' : Int32) (v5' : Int32) (v6' : Int32) (sg' : Sg) (lg' : Lg), StM MX12_betters s0 l0 sg' lg' → (-1) ≤ v3'.toInt → v3'.toInt ≤ 11 → (-1) ≤ v4'.toInt → v4'.toInt ≤ 11 → 0 ≤ v5'.toInt → v5'.toInt ≤ 11 → 0 ≤ v6'.toInt → v6'.toInt ≤ 12 → (v3'.toInt = -1 ∨ 0 ≤ v4'.toInt) → (∀ (v1'' : Int64) (v3'' : Int32) (v4'' : Int32) (v5'' : Int32) (sg'' : Sg) (lg'' : Lg), StM MX12_betters s0 l0 sg'' lg'' → (-1) ≤ v3''.toInt → v3''.toInt ≤ 11 → (-1) ≤ v4''.toInt → v4''.toInt ≤ 11 → 0 ≤ v5''.toInt → v5''.toInt ≤ 12 → (v3''.toInt = -1 ∨ 0 ≤ v4''.toInt) → v5'.toInt < v5''.toInt → Ok (PIM MX12_betters s0 l0 0 1) (r13 (v1'', v3'', v4'', v5'', sg'', lg''))) → v6.toInt < v6'.toInt → Ok (PIM MX12_betters s0 l0 0 1) (r25 (v1', v3', v4', v5', v6', sg', lg'))) : Ok (PIM MX12_betters s0 l0 0 1) (fX12_betters_69 r13 r25 v1 v3 v4 v5 v6 v7 v8 w0 sg lg) := by
  unfold fX12_betters_69
  refine bnd2_pvM (sX12_shift (v1 := v6) (v2 := v5) hS.1 (by omega) (by omega) (by omega) (by omega)) (fun sg1 lg2 hsg1 => ?_)
  have hS1 := hS.tr hsg1 (by decide)
  refine ok_ite (fun c2 => ?_) (fun c2 => ?_)
  · have k3 : (0 : Int32).toInt = 0 := by decide
    replace c2 := i_lt.mp c2
    exact sX12_betters_123 hS1 (by omega) (by omega) (by omega) (by omega) (by omega) (by omega) (by omega) (by omega) (by omega) (by omega) (by omega) hr13 hr25
  · have k4 : (0 : Int32).toInt = 0 := by decide
    replace c2 := i_nlt.mp c2
    refine ok_ite (fun c5 => ?_) (fun c5 => ?_)
    · replace c5 := j_eq.mp c5
      refine ok_gin (by omega) (by omega) ?_
      refine ok_ite (fun c6 => ?_) (fun c6 => ?_)
      · have f7 := rdM3 hS1.1 (j := v3.toNatClampNeg)
        replace c6 := i_lt.mp c6
        exact sX12_betters_119 hS1 (by omega) (by omega) (by omega) (by omega) (by omega) (by omega) (by omega) (by omega) (by omega) (by omega) (by omega) hr13 hr25
      · have f8 := rdM3 hS1.1 (j := v3.toNatClampNeg)
        replace c6 := i_nlt.mp c6
        refine ok_gin (by omega) (by omega) ?_
        refine ok_ite (fun c9 => ?_) (fun c9 => ?_)
        · replace c9 := i_eq.mp c9
          refine ok_ite (fun c10 => ?_) (fun c10 => ?_)
          · replace c10 := i_le.mp c10
            exact sX12_betters_123 hS1 (by omega) (by omega) (by omega) (by omega) (by omega) (by omega) (by omega) (by omega) (by omega) (by omega) (by omega) hr13 hr25
          · replace c10 := i_nle.mp c10
            exact sX12_betters_119 hS1 (by omega) (by omega) (by omega) (by omega) (by omega) (by omega) (by omega) (by omega) (by omega) (by omega) (by omega) hr13 hr25
        · replace c9 := i_ne.mp c9
          exact sX12_betters_123 hS1 (by omega) (by omega) (by omega) (by omega) (by omega) (by omega) (by omega) (by omega) (by omega) (by omega) (by omega) hr13 hr25
    · replace c5 := j_ne.mp c5
      exact sX12_betters_123 hS1 (by omega) (by omega) (by omega) (by omega) (by omega) (by omega) (by omega) (by omega) (by omega) (by omega) (by omega) hr13 hr25
set_option maxHeartbeats 4000000 in
theorem sX12_betters_25 {s0 : Sg} {l0 : Lg} {r13 : (Int64 × Int32 × Int32 × Int32 × Sg × Lg) → Option (Int32 × Sg × Lg)} {r25 : (Int64 × Int32 × Int32 × Int32 × Int32 × Sg × Lg) → Option (Int32 × Sg × Lg)} {v1 : Int64} {v3 : Int32} {v4 : Int32} {v5 : Int32} {v6 : Int32} {sg : Sg} {lg : Lg} (hS : StM MX12_betters s0 l0 sg lg) (v3l : (-1) ≤ v3.toInt) (v3h : v3.toInt ≤ 11) (v4l : (-1) ≤ v4.toInt) (v4h : v4.toInt ≤ 11) (v5l : 0 ≤ v5.toInt) (v5h : v5.toInt ≤ 11) (v6l : 0 ≤ v6.toInt) (v6h : v6.toInt ≤ 12) (xt : v3.toInt = -1 ∨ 0 ≤ v4.toInt) (hr13 : ∀ (v1' : Int64) (v3' : Int32) (v4' : Int32) (v5' : Int32) (sg' : Sg) (lg' : Lg), StM MX12_betters s0 l0 sg' lg' → (-1) ≤ v3'.toInt → v3'.toInt ≤ 11 → (-1) ≤ v4'.toInt → v4'.toInt ≤ 11 → 0 ≤ v5'.toInt → v5'.toInt ≤ 12 → (v3'.toInt = -1 ∨ 0 ≤ v4'.toInt) → v5.toInt < v5'.toInt → Ok (PIM MX12_betters s0 l0 0 1) (r13 (v1', v3', v4', v5', sg', lg'))) (hr25 : ∀ (v1' : Int64) (v3' : Int32) (v4' : Int32) (v5' : Int32) (v6' : Int32) (sg' : Sg) (lg' : Lg), StM MX12_betters s0 l0 sg' lg' → (-1) ≤ v3'.toInt → v3'.toInt ≤ 11 → (-1) ≤ v4'.toInt → v4'.toInt ≤ 11 → 0 ≤ v5'.toInt → v5'.toInt ≤ 11 → 0 ≤ v6'.toInt → v6'.toInt ≤ 12 → (v3'.toInt = -1 ∨ 0 ≤ v4'.toInt) → (∀ (v1'' : Int64) (v3'' : Int32) (v4'' : Int32) (v5'' : Int32) (sg'' : Sg) (lg'' : Lg), StM MX12_betters s0 l0 sg'' lg'' → (-1) ≤ v3''.toInt → v3''.toInt ≤ 11 → (-1) ≤ v4''.toInt → v4''.toInt ≤ 11 → 0 ≤ v5''.toInt → v5''.toInt ≤ 12 → (v3''.toInt = -1 ∨ 0 ≤ v4''.toInt) → v5'.toInt < v5''.toInt → Ok (PIM MX12_betters s0 l0 0 1) (r13 (v1'', v3'', v4'', v5'', sg'', lg''))) → v6.toInt < v6'.toInt → Ok (PIM MX12_betters s0 l0 0 1) (r25 (v1', v3', v4', v5', v6', sg', lg'))) : Ok (PIM MX12_betters s0 l0 0 1) (fX12_betters_25 r13 r25 v1 v3 v4 v5 v6 sg lg) := by
  unfold fX12_betters_25
  refine ok_ite (fun c1 => ?_) (fun c1 => ?_)
  · have f2 := rdM0_4 hS.1
    replace c1 := i_le.mp c1
    refine ok_lt (fun x2 ex2 => ?_)
    replace ex2 : x2.toInt = v5.toInt + 1 := by rw [ex2]; exact add_c 1 (by decide) (by omega) (by omega)
    exact hr13 v1 v3 v4 x2 sg lg hS (by omega) (by omega) (by omega) (by omega) (by omega) (by omega) (by omega) (by omega)
  · have f3 := rdM0_4 hS.1
    replace c1 := i_nle.mp c1
    refine ok_gin (by omega) (by omega) ?_
    have f4 := rdM3 hS.1 (j := v5.toNatClampNeg)
    refine ok_lt (fun x4 ex4 => ?_)
    replace ex4 := congrArg Int32.toInt ex4
    refine bnd2_pvM (sX12_shift (v1 := v5) (v2 := v6) hS.1 (by omega) (by omega) (by omega) (by omega)) (fun sg5 lg6 hsg5 => ?_)
    have e5 : (sg5 0 4).toInt = (sg 0 4).toInt := congrArg Int32.toInt (congrFun (hsg5.fr 0 (by decide)) _)
    have hS6 := hS.tr hsg5 (by decide)
    refine bnd3_pulM (sX12_weightNow  hS6.1) (fun y8 => ?_)
    refine bnd3_puM (sX12_faulty  hS6.1) (fun y12 qy12 zy12 => ?_)
    refine ok_ite (fun c7 => ?_) (fun c7 => ?_)
    · have k8 : (0 : Int32).toInt = 0 := by decide
      replace c7 := i_le.mp c7
      exact sX12_betters_69 hS6 (by omega) (by omega) (by omega) (by omega) (by omega) (by omega) (by omega) (by omega) (by omega) (by omega) (by omega) (by omega) (by omega) hr13 hr25
    · have k9 : (0 : Int32).toInt = 0 := by decide
      replace c7 := i_nle.mp c7
      have k10 : (1 : Int32).toInt = 1 := by decide
      exact sX12_betters_69 hS6 (by omega) (by omega) (by omega) (by omega) (by omega) (by omega) (by omega) (by omega) (by omega) (by omega) (by omega) (by omega) (by omega) hr13 hr25
set_option maxHeartbeats 4000000 in
theorem sLX12_betters_25 {s0 : Sg} {l0 : Lg} {r13 : (Int64 × Int32 × Int32 × Int32 × Sg × Lg) → Option (Int32 × Sg × Lg)} {v1 : Int64} {v3 : Int32} {v4 : Int32} {v5 : Int32} {v6 : Int32} {sg : Sg} {lg : Lg} (hS : StM MX12_betters s0 l0 sg lg) (v3l : (-1) ≤ v3.toInt) (v3h : v3.toInt ≤ 11) (v4l : (-1) ≤ v4.toInt) (v4h : v4.toInt ≤ 11) (v5l : 0 ≤ v5.toInt) (v5h : v5.toInt ≤ 11) (v6l : 0 ≤ v6.toInt) (v6h : v6.toInt ≤ 12) (xt : (v3.toInt = -1 ∨ 0 ≤ v4.toInt)) (hr13 : ∀ (v1' : Int64) (v3' : Int32) (v4' : Int32) (v5' : Int32) (sg' : Sg) (lg' : Lg), StM MX12_betters s0 l0 sg' lg' → (-1) ≤ v3'.toInt → v3'.toInt ≤ 11 → (-1) ≤ v4'.toInt → v4'.toInt ≤ 11 → 0 ≤ v5'.toInt → v5'.toInt ≤ 12 → (v3'.toInt = -1 ∨ 0 ≤ v4'.toInt) → v5.toInt < v5'.toInt → Ok (PIM MX12_betters s0 l0 0 1) (r13 (v1', v3', v4', v5', sg', lg'))) : Ok (PIM MX12_betters s0 l0 0 1) (LX12_betters_25 r13 (v1, v3, v4, v5, v6, sg, lg)) := by
  unfold LX12_betters_25
  refine ok_loop (I := fun (z : Int64 × Int32 × Int32 × Int32 × Int32 × Sg × Lg) => StM MX12_betters s0 l0 z.2.2.2.2.2.1 z.2.2.2.2.2.2 ∧ (-1) ≤ z.2.1.toInt ∧ z.2.1.toInt ≤ 11 ∧ (-1) ≤ z.2.2.1.toInt ∧ z.2.2.1.toInt ≤ 11 ∧ 0 ≤ z.2.2.2.1.toInt ∧ z.2.2.2.1.toInt ≤ 11 ∧ 0 ≤ z.2.2.2.2.1.toInt ∧ z.2.2.2.2.1.toInt ≤ 12 ∧ (z.2.1.toInt = -1 ∨ 0 ≤ z.2.2.1.toInt) ∧ (∀ (v1' : Int64) (v3' : Int32) (v4' : Int32) (v5' : Int32) (sg' : Sg) (lg' : Lg), StM MX12_betters s0 l0 sg' lg' → (-1) ≤ v3'.toInt → v3'.toInt ≤ 11 → (-1) ≤ v4'.toInt → v4'.toInt ≤ 11 → 0 ≤ v5'.toInt → v5'.toInt ≤ 12 → (v3'.toInt = -1 ∨ 0 ≤ v4'.toInt) → z.2.2.2.1.toInt < v5'.toInt → Ok (PIM MX12_betters s0 l0 0 1) (r13 (v1', v3', v4', v5', sg', lg')))) (m := fun (z : Int64 × Int32 × Int32 × Int32 × Int32 × Sg × Lg) => (13 - z.2.2.2.2.1.toInt).toNat) _ ?_ ?_ _ ?_
  · intro z hz
    obtain ⟨h0, h1, h2, h3, h4, h5, h6, h7, h8, h9, h10⟩ := hz
    show (13 - z.2.2.2.2.1.toInt).toNat < 10000
    omega
  · intro rec z hz hrec
    obtain ⟨v1, v3, v4, v5, v6, sg, lg⟩ := z
    replace hz : StM MX12_betters s0 l0 sg lg ∧ (-1) ≤ v3.toInt ∧ v3.toInt ≤ 11 ∧ (-1) ≤ v4.toInt ∧ v4.toInt ≤ 11 ∧ 0 ≤ v5.toInt ∧ v5.toInt ≤ 11 ∧ 0 ≤ v6.toInt ∧ v6.toInt ≤ 12 ∧ (v3.toInt = -1 ∨ 0 ≤ v4.toInt) ∧ (∀ (v1' : Int64) (v3' : Int32) (v4' : Int32) (v5' : Int32) (sg' : Sg) (lg' : Lg), StM MX12_betters s0 l0 sg' lg' → (-1) ≤ v3'.toInt → v3'.toInt ≤ 11 → (-1) ≤ v4'.toInt → v4'.toInt ≤ 11 → 0 ≤ v5'.toInt → v5'.toInt ≤ 12 → (v3'.toInt = -1 ∨ 0 ≤ v4'.toInt) → v5.toInt < v5'.toInt → Ok (PIM MX12_betters s0 l0 0 1) (r13 (v1', v3', v4', v5', sg', lg'))) := hz
    obtain ⟨h0, h1, h2, h3, h4, h5, h6, h7, h8, h9, h10⟩ := hz
    show Ok (PIM MX12_betters s0 l0 0 1) (fX12_betters_25 r13 rec v1 v3 v4 v5 v6 sg lg)
    exact sX12_betters_25 h0 h1 h2 h3 h4 h5 h6 h7 h8 h9 h10 (fun v1' v3' v4' v5' v6' sg' lg' g0 g1 g2 g3 g4 g5 g6 g7 g8 g9 g10 g11 => hrec (v1', v3', v4', v5', v6', sg', lg') ⟨g0, g1, g2, g3, g4, g5, g6, g7, g8, g9, g10⟩ (show (13 - v6'.toInt).toNat < (13 - v6.toInt).toNat by omega))
  · exact ⟨hS, v3l, v3h, v4l, v4h, v5l, v5h, v6l, v6h, xt, hr13⟩
set_option maxHeartbeats 4000000 in
theorem sX12_betters_13 {s0 : Sg} {l0 : Lg} {r13 : (Int64 × Int32 × Int32 × Int32 × Sg × Lg) → Option (Int32 × Sg × Lg)} {v1 : Int64} {v3 : Int32} {v4 : Int32} {v5 : Int32} {sg : Sg} {lg : Lg} (hS : StM MX12_betters s0 l0 sg lg) (v3l : (-1) ≤ v3.toInt) (v3h : v3.toInt ≤ 11) (v4l : (-1) ≤ v4.toInt) (v4h : v4.toInt ≤ 11) (v5l : 0 ≤ v5.toInt) (v5h : v5.toInt ≤ 12) (xt : v3.toInt = -1 ∨ 0 ≤ v4.toInt) (hr13 : ∀ (v1' : Int64) (v3' : Int32) (v4' : Int32) (v5' : Int32) (sg' : Sg) (lg' : Lg), StM MX12_betters s0 l0 sg' lg' → (-1) ≤ v3'.toInt → v3'.toInt ≤ 11 → (-1) ≤ v4'.toInt → v4'.toInt ≤ 11 → 0 ≤ v5'.toInt → v5'.toInt ≤ 12 → (v3'.toInt = -1 ∨ 0 ≤ v4'.toInt) → v5.toInt < v5'.toInt → Ok (PIM MX12_betters s0 l0 0 1) (r13 (v1', v3', v4', v5', sg', lg'))) : Ok (PIM MX12_betters s0 l0 0 1) (fX12_betters_13 r13 v1 v3 v4 v5 sg lg) := by
  unfold fX12_betters_13
  refine ok_ite (fun c1 => ?_) (fun c1 => ?_)
  · have f2 := rdM0_4 hS.1
    replace c1 := i_le.mp c1
    refine ok_ite (fun c3 => ?_) (fun c3 => ?_)
    · have k4 : (0 : Int32).toInt = 0 := by decide
      replace c3 := i_lt.mp c3
      exact sX12_betters_183 hS (by omega) (by omega)
    · have k5 : (0 : Int32).toInt = 0 := by decide
      replace c3 := i_nlt.mp c3
      refine bnd2_pvM (sX12_shift (v1 := v3) (v2 := v4) hS.1 (by omega) (by omega) (by omega) (by omega)) (fun sg3 lg4 hsg3 => ?_)
      have e6 : (sg3 0 4).toInt = (sg 0 4).toInt := congrArg Int32.toInt (congrFun (hsg3.fr 0 (by decide)) _)
      have hS7 := hS.tr hsg3 (by decide)
      exact sX12_betters_183 hS7 (by omega) (by omega)
  · have f8 := rdM0_4 hS.1
    replace c1 := i_nle.mp c1
    have k9 : (0 : Int32).toInt = 0 := by decide
    exact sLX12_betters_25 hS (by omega) (by omega) (by omega) (by omega) (by omega) (by omega) (by omega) (by omega) (by omega) hr13
set_option maxHeartbeats 4000000 in
theorem sLX12_betters_13 {s0 : Sg} {l0 : Lg} {v1 : Int64} {v3 : Int32} {v4 : Int32} {v5 : Int32} {sg : Sg} {lg : Lg} (hS : StM MX12_betters s0 l0 sg lg) (v3l : (-1) ≤ v3.toInt) (v3h : v3.toInt ≤ 11) (v4l : (-1) ≤ v4.toInt) (v4h : v4.toInt ≤ 11) (v5l : 0 ≤ v5.toInt) (v5h : v5.toInt ≤ 12) (xt : (v3.toInt = -1 ∨ 0 ≤ v4.toInt)) : Ok (PIM MX12_betters s0 l0 0 1) (LX12_betters_13 (v1, v3, v4, v5, sg, lg)) := by
  unfold LX12_betters_13
  refine ok_loop (I := fun (z : Int64 × Int32 × Int32 × Int32 × Sg × Lg) => StM MX12_betters s0 l0 z.2.2.2.2.1 z.2.2.2.2.2 ∧ (-1) ≤ z.2.1.toInt ∧ z.2.1.toInt ≤ 11 ∧ (-1) ≤ z.2.2.1.toInt ∧ z.2.2.1.toInt ≤ 11 ∧ 0 ≤ z.2.2.2.1.toInt ∧ z.2.2.2.1.toInt ≤ 12 ∧ (z.2.1.toInt = -1 ∨ 0 ≤ z.2.2.1.toInt)) (m := fun (z : Int64 × Int32 × Int32 × Int32 × Sg × Lg) => (13 - z.2.2.2.1.toInt).toNat) _ ?_ ?_ _ ?_
  · intro z hz
    obtain ⟨h0, h1, h2, h3, h4, h5, h6, h7⟩ := hz
    show (13 - z.2.2.2.1.toInt).toNat < 10000
    omega
  · intro rec z hz hrec
    obtain ⟨v1, v3, v4, v5, sg, lg⟩ := z
    replace hz : StM MX12_betters s0 l0 sg lg ∧ (-1) ≤ v3.toInt ∧ v3.toInt ≤ 11 ∧ (-1) ≤ v4.toInt ∧ v4.toInt ≤ 11 ∧ 0 ≤ v5.toInt ∧ v5.toInt ≤ 12 ∧ (v3.toInt = -1 ∨ 0 ≤ v4.toInt) := hz
    obtain ⟨h0, h1, h2, h3, h4, h5, h6, h7⟩ := hz
    show Ok (PIM MX12_betters s0 l0 0 1) (fX12_betters_13 rec v1 v3 v4 v5 sg lg)
    exact sX12_betters_13 h0 h1 h2 h3 h4 h5 h6 h7 (fun v1' v3' v4' v5' sg' lg' g0 g1 g2 g3 g4 g5 g6 g7 g8 => hrec (v1', v3', v4', v5', sg', lg') ⟨g0, g1, g2, g3, g4, g5, g6, g7⟩ (show (13 - v5'.toInt).toNat < (13 - v5.toInt).toNat by omega))
  · exact ⟨hS, v3l, v3h, v4l, v4h, v5l, v5h, xt⟩
set_option maxHeartbeats 4000000 in
theorem sX12_betters {sg : Sg} {lg : Lg} (hI : IM sg lg) : Ok (PIM MX12_betters sg lg 0 1) (fX12_betters sg lg) := by
  have hS : StM MX12_betters sg lg sg lg := StM.rf hI
  unfold fX12_betters
  refine bnd3_pulM (sX12_weightNow  hS.1) (fun y1 => ?_)
  have k1 : (-1 : Int32).toInt = -1 := by decide
  have k2 : (0 : Int32).toInt = 0 := by decide
  exact sLX12_betters_13 hS (by omega) (by omega) (by omega) (by omega) (by omega) (by omega) (by omega)
set_option maxHeartbeats 4000000 in
theorem sX12_better_29 {s0 : Sg} {l0 : Lg} {r29 : (Int32 × Int32 × Sg × Lg) → Option (Int64 × Sg × Lg)} {v1 : Int32} {v2 : Int32} {sg : Sg} {lg : Lg} (hS : StM MX12_better s0 l0 sg lg) (v1l : 1 ≤ v1.toInt) (v1h : v1.toInt ≤ 40) (v2l : 0 ≤ v2.toInt) (v2h : v2.toInt ≤ 40) (hr29 : ∀ (v1' : Int32) (v2' : Int32) (sg' : Sg) (lg' : Lg), StM MX12_better s0 l0 sg' lg' → 1 ≤ v1'.toInt → v1'.toInt ≤ 40 → 0 ≤ v2'.toInt → v2'.toInt ≤ 40 → v2.toInt < v2'.toInt → Ok (PLM MX12_better s0 l0) (r29 (v1', v2', sg', lg'))) : Ok (PLM MX12_better s0 l0) (fX12_better_29 r29 v1 v2 sg lg) := by
  unfold fX12_better_29
  refine ok_ite (fun c1 => ?_) (fun c1 => ?_)
  · replace c1 := i_le.mp c1
    exact ok_some (mkPLM hS)
  · replace c1 := i_nle.mp c1
    refine bnd3_piM (sX12_betters  hS.1) (fun y2 sg3 lg4 hsg3 qy2 zy2 => ?_)
    have hS2 := hS.tr hsg3 (by decide)
    refine ok_ite (fun c3 => ?_) (fun c3 => ?_)
    · have k4 : (0 : Int32).toInt = 0 := by decide
      replace c3 := i_eq.mp c3
      exact ok_some (mkPLM hS2)
    · have k5 : (0 : Int32).toInt = 0 := by decide
      replace c3 := i_ne.mp c3
      refine ok_lt (fun x7 ex7 => ?_)
      replace ex7 : x7.toInt = v2.toInt + 1 := by rw [ex7]; exact add_c 1 (by decide) (by omega) (by omega)
      exact hr29 v1 x7 sg3 lg4 hS2 (by omega) (by omega) (by omega) (by omega) (by omega)
set_option maxHeartbeats 4000000 in
theorem sLX12_better_29 {s0 : Sg} {l0 : Lg} {v1 : Int32} {v2 : Int32} {sg : Sg} {lg : Lg} (hS : StM MX12_better s0 l0 sg lg) (v1l : 1 ≤ v1.toInt) (v1h : v1.toInt ≤ 40) (v2l : 0 ≤ v2.toInt) (v2h : v2.toInt ≤ 40) : Ok (PLM MX12_better s0 l0) (LX12_better_29 (v1, v2, sg, lg)) := by
  unfold LX12_better_29
  refine ok_loop (I := fun (z : Int32 × Int32 × Sg × Lg) => StM MX12_better s0 l0 z.2.2.1 z.2.2.2 ∧ 1 ≤ z.1.toInt ∧ z.1.toInt ≤ 40 ∧ 0 ≤ z.2.1.toInt ∧ z.2.1.toInt ≤ 40) (m := fun (z : Int32 × Int32 × Sg × Lg) => (41 - z.2.1.toInt).toNat) _ ?_ ?_ _ ?_
  · intro z hz
    obtain ⟨h0, h1, h2, h3, h4⟩ := hz
    show (41 - z.2.1.toInt).toNat < 10000
    omega
  · intro rec z hz hrec
    obtain ⟨v1, v2, sg, lg⟩ := z
    replace hz : StM MX12_better s0 l0 sg lg ∧ 1 ≤ v1.toInt ∧ v1.toInt ≤ 40 ∧ 0 ≤ v2.toInt ∧ v2.toInt ≤ 40 := hz
    obtain ⟨h0, h1, h2, h3, h4⟩ := hz
    show Ok (PLM MX12_better s0 l0) (fX12_better_29 rec v1 v2 sg lg)
    exact sX12_better_29 h0 h1 h2 h3 h4 (fun v1' v2' sg' lg' g0 g1 g2 g3 g4 g5 => hrec (v1', v2', sg', lg') ⟨g0, g1, g2, g3, g4⟩ (show (41 - v2'.toInt).toNat < (41 - v2.toInt).toNat by omega))
  · exact ⟨hS, v1l, v1h, v2l, v2h⟩
set_option maxHeartbeats 4000000 in
theorem sX12_better {v1 : Int32} {sg : Sg} {lg : Lg} (hI : IM sg lg) : Ok (PLM MX12_better sg lg) (fX12_better v1 sg lg) := by
  have hS : StM MX12_better sg lg sg lg := StM.rf hI
  unfold fX12_better
  have f1 : v1.toInt64.toInt = v1.toInt := Int32.toInt_toInt64 _
  have k2 : (1 : Int64).toInt = 1 := by decide
  have k3 : (40 : Int64).toInt = 40 := by decide
  refine bnd3_pxM (sX12_isIn (v0 := v1.toInt64) (v2 := (1 : Int64)) (v4 := (40 : Int64)) hS.1) (fun y1 qy1 zy1 xy1 => ?_)
  replace xy1 : y1.toInt = 0 ∨ ((1 : Int64).toInt ≤ v1.toInt64.toInt ∧ v1.toInt64.toInt ≤ (40 : Int64).toInt) := xy1
  refine ok_ite (fun c4 => ?_) (fun c4 => ?_)
  · have k5 : (0 : Int32).toInt = 0 := by decide
    replace c4 := i_eq.mp c4
    exact ok_some (mkPLM hS)
  · have k6 : (0 : Int32).toInt = 0 := by decide
    replace c4 := i_ne.mp c4
    refine bnd3_puM (sX12_isWhole  hS.1) (fun y6 qy6 zy6 => ?_)
    refine ok_ite (fun c7 => ?_) (fun c7 => ?_)
    · replace c7 := i_eq.mp c7
      exact ok_some (mkPLM hS)
    · replace c7 := i_ne.mp c7
      exact sLX12_better_29 hS (by omega) (by omega) (by omega) (by omega)
set_option maxHeartbeats 4000000 in
theorem sX12_turn_2 {s0 : Sg} {l0 : Lg} {r2 : (Int32 × Sg × Lg) → Option (Int64 × Sg × Lg)} {v1 : Int32} {sg : Sg} {lg : Lg} (hS : StM MX12_turn s0 l0 sg lg) (v1l : 0 ≤ v1.toInt) (v1h : v1.toInt ≤ 6) (hr2 : ∀ (v1' : Int32) (sg' : Sg) (lg' : Lg), StM MX12_turn s0 l0 sg' lg' → 0 ≤ v1'.toInt → v1'.toInt ≤ 6 → v1.toInt < v1'.toInt → Ok (PLM MX12_turn s0 l0) (r2 (v1', sg', lg'))) : Ok (PLM MX12_turn s0 l0) (fX12_turn_2 r2 v1 sg lg) := by
  unfold fX12_turn_2
  refine ok_ite (fun c1 => ?_) (fun c1 => ?_)
  · have f2 := rdM0_4 hS.1
    have f3 := div_i (a := (sg 0 4)) (b := (2 : Int32)) 2 (by decide) (by decide) (by omega)
    replace c1 := i_le.mp c1
    exact ok_some (mkPLM hS)
  · have f4 := rdM0_4 hS.1
    have f5 := div_i (a := (sg 0 4)) (b := (2 : Int32)) 2 (by decide) (by decide) (by omega)
    replace c1 := i_nle.mp c1
    refine ok_gin (by omega) (by omega) ?_
    have f6 := rdM3 hS.1 (j := v1.toNatClampNeg)
    refine ok_lt (fun x3 ex3 => ?_)
    replace ex3 := congrArg Int32.toInt ex3
    have k7 : (1 : Int32).toInt = 1 := by decide
    have f8 := sub_i (a := (sg 0 4)) (b := (1 : Int32)) (by omega) (by omega)
    have f9 := sub_i (a := ((sg 0 4) - (1 : Int32))) (b := v1) (by omega) (by omega)
    refine ok_lt (fun x4 ex4 => ?_)
    replace ex4 := congrArg Int32.toInt ex4
    refine ok_gin (by omega) (by omega) ?_
    have f10 := rdM3 hS.1 (j := x4.toNatClampNeg)
    refine ok_lt (fun x6 ex6 => ?_)
    replace ex6 := congrArg Int32.toInt ex6
    refine ok_gin (by omega) (by omega) ?_
    refine ok_lt (fun sg8 esg8 => ?_)
    have hS11 := upM3 hS (by decide) esg8 (by omega) (by omega)
    have e12 : (sg8 0 4).toInt = (sg 0 4).toInt := by rw [esg8]; rfl
    have f13 := rdM0_4 hS11.1
    have f14 := sub_i (a := (sg8 0 4)) (b := (1 : Int32)) (by omega) (by omega)
    have f15 := sub_i (a := ((sg8 0 4) - (1 : Int32))) (b := v1) (by omega) (by omega)
    refine ok_gin (by omega) (by omega) ?_
    refine ok_lt (fun sg10 esg10 => ?_)
    have hS16 := upM3 hS11 (by decide) esg10 (by omega) (by omega)
    have e17 : (sg10 0 4).toInt = (sg8 0 4).toInt := by rw [esg10]; rfl
    refine ok_lt (fun x11 ex11 => ?_)
    replace ex11 : x11.toInt = v1.toInt + 1 := by rw [ex11]; exact add_c 1 (by decide) (by omega) (by omega)
    exact hr2 x11 sg10 lg hS16 (by omega) (by omega) (by omega)
set_option maxHeartbeats 4000000 in
theorem sLX12_turn_2 {s0 : Sg} {l0 : Lg} {v1 : Int32} {sg : Sg} {lg : Lg} (hS : StM MX12_turn s0 l0 sg lg) (v1l : 0 ≤ v1.toInt) (v1h : v1.toInt ≤ 6) : Ok (PLM MX12_turn s0 l0) (LX12_turn_2 (v1, sg, lg)) := by
  unfold LX12_turn_2
  refine ok_loop (I := fun (z : Int32 × Sg × Lg) => StM MX12_turn s0 l0 z.2.1 z.2.2 ∧ 0 ≤ z.1.toInt ∧ z.1.toInt ≤ 6) (m := fun (z : Int32 × Sg × Lg) => (7 - z.1.toInt).toNat) _ ?_ ?_ _ ?_
  · intro z hz
    obtain ⟨h0, h1, h2⟩ := hz
    show (7 - z.1.toInt).toNat < 10000
    omega
  · intro rec z hz hrec
    obtain ⟨v1, sg, lg⟩ := z
    replace hz : StM MX12_turn s0 l0 sg lg ∧ 0 ≤ v1.toInt ∧ v1.toInt ≤ 6 := hz
    obtain ⟨h0, h1, h2⟩ := hz
    show Ok (PLM MX12_turn s0 l0) (fX12_turn_2 rec v1 sg lg)
    exact sX12_turn_2 h0 h1 h2 (fun v1' sg' lg' g0 g1 g2 g3 => hrec (v1', sg', lg') ⟨g0, g1, g2⟩ (show (7 - v1'.toInt).toNat < (7 - v1.toInt).toNat by omega))
  · exact ⟨hS, v1l, v1h⟩
set_option maxHeartbeats 4000000 in
theorem sX12_turn {sg : Sg} {lg : Lg} (hI : IM sg lg) : Ok (PLM MX12_turn sg lg) (fX12_turn sg lg) := by
  have hS : StM MX12_turn sg lg sg lg := StM.rf hI
  unfold fX12_turn
  have k1 : (0 : Int32).toInt = 0 := by decide
  exact sLX12_turn_2 hS (by omega) (by omega)
set_option maxHeartbeats 4000000 in
theorem sX12_findReach_155 {s0 : Sg} {l0 : Lg} {r76 : (Int32 × Sg × Lg) → Option (Sg × Lg)} {r84 : (Int32 × Int32 × Sg × Lg) → Option (Sg × Lg)} {r92 : (Int32 × Int32 × Int32 × Sg × Lg) → Option (Sg × Lg)} {v1 : Int32} {v2 : Int32} {v3 : Int32} {w0 : Int32} {w1 : Int32} {sg : Sg} {lg : Lg} (hS : StM MX12_findReach s0 l0 sg lg) (v1l : 0 ≤ v1.toInt) (v1h : v1.toInt ≤ 11) (v2l : 0 ≤ v2.toInt) (v2h : v2.toInt ≤ 11) (v3l : 0 ≤ v3.toInt) (v3h : v3.toInt ≤ 11) (w0l : 0 ≤ w0.toInt) (w0h : w0.toInt ≤ 1) (w1l : 0 ≤ w1.toInt) (w1h : w1.toInt ≤ 143) (xd : dg sg 12) (xw : w0.toInt = 1 ∨ (sg 8 w1.toNatClampNeg).toInt = 0) (hr76 : ∀ (v1' : Int32) (sg' : Sg) (lg' : Lg), StM MX12_findReach s0 l0 sg' lg' → 0 ≤ v1'.toInt → v1'.toInt ≤ 12 → (dg sg' 12) → v1.toInt < v1'.toInt → Ok (PVXM MX12_findReach s0 l0 (fun r => dg r 12)) (r76 (v1', sg', lg'))) (hr84 : ∀ (v1' : Int32) (v2' : Int32) (sg' : Sg) (lg' : Lg), StM MX12_findReach s0 l0 sg' lg' → 0 ≤ v1'.toInt → v1'.toInt ≤ 11 → 0 ≤ v2'.toInt → v2'.toInt ≤ 12 → (dg sg' 12) → (∀ (v1'' : Int32) (sg'' : Sg) (lg'' : Lg), StM MX12_findReach s0 l0 sg'' lg'' → 0 ≤ v1''.toInt → v1''.toInt ≤ 12 → (dg sg'' 12) → v1'.toInt < v1''.toInt → Ok (PVXM MX12_findReach s0 l0 (fun r => dg r 12)) (r76 (v1'', sg'', lg''))) → v2.toInt < v2'.toInt → Ok (PVXM MX12_findReach s0 l0 (fun r => dg r 12)) (r84 (v1', v2', sg', lg'))) (hr92 : ∀ (v1' : Int32) (v2' : Int32) (v3' : Int32) (sg' : Sg) (lg' : Lg), StM MX12_findReach s0 l0 sg' lg' → 0 ≤ v1'.toInt → v1'.toInt ≤ 11 → 0 ≤ v2'.toInt → v2'.toInt ≤ 11 → 0 ≤ v3'.toInt → v3'.toInt ≤ 12 → (dg sg' 12) → (∀ (v1'' : Int32) (sg'' : Sg) (lg'' : Lg), StM MX12_findReach s0 l0 sg'' lg'' → 0 ≤ v1''.toInt → v1''.toInt ≤ 12 → (dg sg'' 12) → v1'.toInt < v1''.toInt → Ok (PVXM MX12_findReach s0 l0 (fun r => dg r 12)) (r76 (v1'', sg'', lg''))) → (∀ (v1'' : Int32) (v2'' : Int32) (sg'' : Sg) (lg'' : Lg), StM MX12_findReach s0 l0 sg'' lg'' → 0 ≤ v1''.toInt → v1''.toInt ≤ 11 → 0 ≤ v2''.toInt → v2''.toInt ≤ 12 → (dg sg'' 12) → (∀ (v1''' : Int32) (sg''' : Sg) (lg''' : Lg), StM MX12_findReach s0 l0 sg''' lg''' → 0 ≤ v1'''.toInt → v1'''.toInt ≤ 12 → (dg sg''' 12) → v1''.toInt < v1'''.toInt → Ok (PVXM MX12_findReach s0 l0 (fun r => dg r 12)) (r76 (v1''', sg''', lg'''))) → v2'.toInt < v2''.toInt → Ok (PVXM MX12_findReach s0 l0 (fun r => dg r 12)) (r84 (v1'', v2'', sg'', lg''))) → v3.toInt < v3'.toInt → Ok (PVXM MX12_findReach s0 l0 (fun r => dg r 12)) (r92 (v1', v2', v3', sg', lg'))) : Ok (PVXM MX12_findReach s0 l0 (fun r => dg r 12)) (fX12_findReach_155 r76 r84 r92 v1 v2 v3 w0 w1 sg lg) := by
  unfold fX12_findReach_155
  refine ok_gin (by omega) (by omega) ?_
  have k1 : (1 : Int32).toInt = 1 := by decide
  have f2 := and_l (a := w0) (b := 1) (by omega)
  have f3 := and_r (a := w0) (b := 1) (by omega)
  refine ok_lt (fun sg2 esg2 => ?_)
  have hS4 := upM8 hS (by decide) esg2 (by omega) (by omega)
  refine ok_lt (fun x3 ex3 => ?_)
  replace ex3 : x3.toInt = v3.toInt + 1 := by rw [ex3]; exact add_c 1 (by decide) (by omega) (by omega)
  exact hr92 v1 v2 x3 sg2 lg hS4 (by omega) (by omega) (by omega) (by omega) (by omega) (by omega) (dg_up xd esg2 xw) hr76 hr84 (by omega)
set_option maxHeartbeats 4000000 in
theorem sX12_findReach_150 {s0 : Sg} {l0 : Lg} {r76 : (Int32 × Sg × Lg) → Option (Sg × Lg)} {r84 : (Int32 × Int32 × Sg × Lg) → Option (Sg × Lg)} {r92 : (Int32 × Int32 × Int32 × Sg × Lg) → Option (Sg × Lg)} {v1 : Int32} {v2 : Int32} {v3 : Int32} {w0 : Int32} {sg : Sg} {lg : Lg} (hS : StM MX12_findReach s0 l0 sg lg) (v1l : 0 ≤ v1.toInt) (v1h : v1.toInt ≤ 11) (v2l : 0 ≤ v2.toInt) (v2h : v2.toInt ≤ 11) (v3l : 0 ≤ v3.toInt) (v3h : v3.toInt ≤ 11) (w0l : 0 ≤ w0.toInt) (w0h : w0.toInt ≤ 143) (xd : dg sg 12) (hr76 : ∀ (v1' : Int32) (sg' : Sg) (lg' : Lg), StM MX12_findReach s0 l0 sg' lg' → 0 ≤ v1'.toInt → v1'.toInt ≤ 12 → (dg sg' 12) → v1.toInt < v1'.toInt → Ok (PVXM MX12_findReach s0 l0 (fun r => dg r 12)) (r76 (v1', sg', lg'))) (hr84 : ∀ (v1' : Int32) (v2' : Int32) (sg' : Sg) (lg' : Lg), StM MX12_findReach s0 l0 sg' lg' → 0 ≤ v1'.toInt → v1'.toInt ≤ 11 → 0 ≤ v2'.toInt → v2'.toInt ≤ 12 → (dg sg' 12) → (∀ (v1'' : Int32) (sg'' : Sg) (lg'' : Lg), StM MX12_findReach s0 l0 sg'' lg'' → 0 ≤ v1''.toInt → v1''.toInt ≤ 12 → (dg sg'' 12) → v1'.toInt < v1''.toInt → Ok (PVXM MX12_findReach s0 l0 (fun r => dg r 12)) (r76 (v1'', sg'', lg''))) → v2.toInt < v2'.toInt → Ok (PVXM MX12_findReach s0 l0 (fun r => dg r 12)) (r84 (v1', v2', sg', lg'))) (hr92 : ∀ (v1' : Int32) (v2' : Int32) (v3' : Int32) (sg' : Sg) (lg' : Lg), StM MX12_findReach s0 l0 sg' lg' → 0 ≤ v1'.toInt → v1'.toInt ≤ 11 → 0 ≤ v2'.toInt → v2'.toInt ≤ 11 → 0 ≤ v3'.toInt → v3'.toInt ≤ 12 → (dg sg' 12) → (∀ (v1'' : Int32) (sg'' : Sg) (lg'' : Lg), StM MX12_findReach s0 l0 sg'' lg'' → 0 ≤ v1''.toInt → v1''.toInt ≤ 12 → (dg sg'' 12) → v1'.toInt < v1''.toInt → Ok (PVXM MX12_findReach s0 l0 (fun r => dg r 12)) (r76 (v1'', sg'', lg''))) → (∀ (v1'' : Int32) (v2'' : Int32) (sg'' : Sg) (lg'' : Lg), StM MX12_findReach s0 l0 sg'' lg'' → 0 ≤ v1''.toInt → v1''.toInt ≤ 11 → 0 ≤ v2''.toInt → v2''.toInt ≤ 12 → (dg sg'' 12) → (∀ (v1''' : Int32) (sg''' : Sg) (lg''' : Lg), StM MX12_findReach s0 l0 sg''' lg''' → 0 ≤ v1'''.toInt → v1'''.toInt ≤ 12 → (dg sg''' 12) → v1''.toInt < v1'''.toInt → Ok (PVXM MX12_findReach s0 l0 (fun r => dg r 12)) (r76 (v1''', sg''', lg'''))) → v2'.toInt < v2''.toInt → Ok (PVXM MX12_findReach s0 l0 (fun r => dg r 12)) (r84 (v1'', v2'', sg'', lg''))) → v3.toInt < v3'.toInt → Ok (PVXM MX12_findReach s0 l0 (fun r => dg r 12)) (r92 (v1', v2', v3', sg', lg'))) : Ok (PVXM MX12_findReach s0 l0 (fun r => dg r 12)) (fX12_findReach_150 r76 r84 r92 v1 v2 v3 w0 sg lg) := by
  unfold fX12_findReach_150
  have k1 : (1 : Int32).toInt = 1 := by decide
  exact sX12_findReach_155 hS (by omega) (by omega) (by omega) (by omega) (by omega) (by omega) (by omega) (by omega) (by omega) (by omega) xd (by omega) hr76 hr84 hr92
set_option maxHeartbeats 4000000 in
theorem sX12_findReach_154 {s0 : Sg} {l0 : Lg} {r76 : (Int32 × Sg × Lg) → Option (Sg × Lg)} {r84 : (Int32 × Int32 × Sg × Lg) → Option (Sg × Lg)} {r92 : (Int32 × Int32 × Int32 × Sg × Lg) → Option (Sg × Lg)} {v1 : Int32} {v2 : Int32} {v3 : Int32} {w0 : Int32} {sg : Sg} {lg : Lg} (hS : StM MX12_findReach s0 l0 sg lg) (v1l : 0 ≤ v1.toInt) (v1h : v1.toInt ≤ 11) (v2l : 0 ≤ v2.toInt) (v2h : v2.toInt ≤ 11) (v3l : 0 ≤ v3.toInt) (v3h : v3.toInt ≤ 11) (w0l : 0 ≤ w0.toInt) (w0h : w0.toInt ≤ 143) (xd : dg sg 12) (xw : (sg 8 w0.toNatClampNeg).toInt = 0) (hr76 : ∀ (v1' : Int32) (sg' : Sg) (lg' : Lg), StM MX12_findReach s0 l0 sg' lg' → 0 ≤ v1'.toInt → v1'.toInt ≤ 12 → (dg sg' 12) → v1.toInt < v1'.toInt → Ok (PVXM MX12_findReach s0 l0 (fun r => dg r 12)) (r76 (v1', sg', lg'))) (hr84 : ∀ (v1' : Int32) (v2' : Int32) (sg' : Sg) (lg' : Lg), StM MX12_findReach s0 l0 sg' lg' → 0 ≤ v1'.toInt → v1'.toInt ≤ 11 → 0 ≤ v2'.toInt → v2'.toInt ≤ 12 → (dg sg' 12) → (∀ (v1'' : Int32) (sg'' : Sg) (lg'' : Lg), StM MX12_findReach s0 l0 sg'' lg'' → 0 ≤ v1''.toInt → v1''.toInt ≤ 12 → (dg sg'' 12) → v1'.toInt < v1''.toInt → Ok (PVXM MX12_findReach s0 l0 (fun r => dg r 12)) (r76 (v1'', sg'', lg''))) → v2.toInt < v2'.toInt → Ok (PVXM MX12_findReach s0 l0 (fun r => dg r 12)) (r84 (v1', v2', sg', lg'))) (hr92 : ∀ (v1' : Int32) (v2' : Int32) (v3' : Int32) (sg' : Sg) (lg' : Lg), StM MX12_findReach s0 l0 sg' lg' → 0 ≤ v1'.toInt → v1'.toInt ≤ 11 → 0 ≤ v2'.toInt → v2'.toInt ≤ 11 → 0 ≤ v3'.toInt → v3'.toInt ≤ 12 → (dg sg' 12) → (∀ (v1'' : Int32) (sg'' : Sg) (lg'' : Lg), StM MX12_findReach s0 l0 sg'' lg'' → 0 ≤ v1''.toInt → v1''.toInt ≤ 12 → (dg sg'' 12) → v1'.toInt < v1''.toInt → Ok (PVXM MX12_findReach s0 l0 (fun r => dg r 12)) (r76 (v1'', sg'', lg''))) → (∀ (v1'' : Int32) (v2'' : Int32) (sg'' : Sg) (lg'' : Lg), StM MX12_findReach s0 l0 sg'' lg'' → 0 ≤ v1''.toInt → v1''.toInt ≤ 11 → 0 ≤ v2''.toInt → v2''.toInt ≤ 12 → (dg sg'' 12) → (∀ (v1''' : Int32) (sg''' : Sg) (lg''' : Lg), StM MX12_findReach s0 l0 sg''' lg''' → 0 ≤ v1'''.toInt → v1'''.toInt ≤ 12 → (dg sg''' 12) → v1''.toInt < v1'''.toInt → Ok (PVXM MX12_findReach s0 l0 (fun r => dg r 12)) (r76 (v1''', sg''', lg'''))) → v2'.toInt < v2''.toInt → Ok (PVXM MX12_findReach s0 l0 (fun r => dg r 12)) (r84 (v1'', v2'', sg'', lg''))) → v3.toInt < v3'.toInt → Ok (PVXM MX12_findReach s0 l0 (fun r => dg r 12)) (r92 (v1', v2', v3', sg', lg'))) : Ok (PVXM MX12_findReach s0 l0 (fun r => dg r 12)) (fX12_findReach_154 r76 r84 r92 v1 v2 v3 w0 sg lg) := by
  unfold fX12_findReach_154
  have k1 : (0 : Int32).toInt = 0 := by decide
  exact sX12_findReach_155 hS (by omega) (by omega) (by omega) (by omega) (by omega) (by omega) (by omega) (by omega) (by omega) (by omega) xd (by omega) hr76 hr84 hr92
set_option maxHeartbeats 4000000 in
theorem sX12_findReach_92 {s0 : Sg} {l0 : Lg} {r76 : (Int32 × Sg × Lg) → Option (Sg × Lg)} {r84 : (Int32 × Int32 × Sg × Lg) → Option (Sg × Lg)} {r92 : (Int32 × Int32 × Int32 × Sg × Lg) → Option (Sg × Lg)} {v1 : Int32} {v2 : Int32} {v3 : Int32} {sg : Sg} {lg : Lg} (hS : StM MX12_findReach s0 l0 sg lg) (v1l : 0 ≤ v1.toInt) (v1h : v1.toInt ≤ 11) (v2l : 0 ≤ v2.toInt) (v2h : v2.toInt ≤ 11) (v3l : 0 ≤ v3.toInt) (v3h : v3.toInt ≤ 12) (xd : dg sg 12) (hr76 : ∀ (v1' : Int32) (sg' : Sg) (lg' : Lg), StM MX12_findReach s0 l0 sg' lg' → 0 ≤ v1'.toInt → v1'.toInt ≤ 12 → (dg sg' 12) → v1.toInt < v1'.toInt → Ok (PVXM MX12_findReach s0 l0 (fun r => dg r 12)) (r76 (v1', sg', lg'))) (hr84 : ∀ (v1' : Int32) (v2' : Int32) (sg' : Sg) (lg' : Lg), StM MX12_findReach s0 l0 sg' lg' → 0 ≤ v1'.toInt → v1'.toInt ≤ 11 → 0 ≤ v2'.toInt → v2'.toInt ≤ 12 → (dg sg' 12) → (∀ (v1'' : Int32) (sg'' : Sg) (lg'' : Lg), StM MX12_findReach s0 l0 sg'' lg'' → 0 ≤ v1''.toInt → v1''.toInt ≤ 12 → (dg sg'' 12) → v1'.toInt < v1''.toInt → Ok (PVXM MX12_findReach s0 l0 (fun r => dg r 12)) (r76 (v1'', sg'', lg''))) → v2.toInt < v2'.toInt → Ok (PVXM MX12_findReach s0 l0 (fun r => dg r 12)) (r84 (v1', v2', sg', lg'))) (hr92 : ∀ (v1' : Int32) (v2' : Int32) (v3' : Int32) (sg' : Sg) (lg' : Lg), StM MX12_findReach s0 l0 sg' lg' → 0 ≤ v1'.toInt → v1'.toInt ≤ 11 → 0 ≤ v2'.toInt → v2'.toInt ≤ 11 → 0 ≤ v3'.toInt → v3'.toInt ≤ 12 → (dg sg' 12) → (∀ (v1'' : Int32) (sg'' : Sg) (lg'' : Lg), StM MX12_findReach s0 l0 sg'' lg'' → 0 ≤ v1''.toInt → v1''.toInt ≤ 12 → (dg sg'' 12) → v1'.toInt < v1''.toInt → Ok (PVXM MX12_findReach s0 l0 (fun r => dg r 12)) (r76 (v1'', sg'', lg''))) → (∀ (v1'' : Int32) (v2'' : Int32) (sg'' : Sg) (lg'' : Lg), StM MX12_findReach s0 l0 sg'' lg'' → 0 ≤ v1''.toInt → v1''.toInt ≤ 11 → 0 ≤ v2''.toInt → v2''.toInt ≤ 12 → (dg sg'' 12) → (∀ (v1''' : Int32) (sg''' : Sg) (lg''' : Lg), StM MX12_findReach s0 l0 sg''' lg''' → 0 ≤ v1'''.toInt → v1'''.toInt ≤ 12 → (dg sg''' 12) → v1''.toInt < v1'''.toInt → Ok (PVXM MX12_findReach s0 l0 (fun r => dg r 12)) (r76 (v1''', sg''', lg'''))) → v2'.toInt < v2''.toInt → Ok (PVXM MX12_findReach s0 l0 (fun r => dg r 12)) (r84 (v1'', v2'', sg'', lg''))) → v3.toInt < v3'.toInt → Ok (PVXM MX12_findReach s0 l0 (fun r => dg r 12)) (r92 (v1', v2', v3', sg', lg'))) : Ok (PVXM MX12_findReach s0 l0 (fun r => dg r 12)) (fX12_findReach_92 r76 r84 r92 v1 v2 v3 sg lg) := by
  unfold fX12_findReach_92
  refine ok_ite (fun c1 => ?_) (fun c1 => ?_)
  · have k2 : (12 : Int32).toInt = 12 := by decide
    replace c1 := i_le.mp c1
    refine ok_lt (fun x2 ex2 => ?_)
    replace ex2 : x2.toInt = v2.toInt + 1 := by rw [ex2]; exact add_c 1 (by decide) (by omega) (by omega)
    exact hr84 v1 x2 sg lg hS (by omega) (by omega) (by omega) (by omega) xd hr76 (by omega)
  · have k3 : (12 : Int32).toInt = 12 := by decide
    replace c1 := i_nle.mp c1
    have f4 := mul_l (a := (12 : Int32)) (b := v2) 12 (by decide) (by omega) (by omega)
    have f5 := add_i (a := ((12 : Int32) * v2)) (b := v3) (by omega) (by omega)
    refine ok_lt (fun x3 ex3 => ?_)
    replace ex3 := congrArg Int32.toInt ex3
    refine ok_gin (by omega) (by omega) ?_
    refine ok_ite (fun c6 => ?_) (fun c6 => ?_)
    · have f7 := rdM8 hS.1 (j := x3.toNatClampNeg)
      have k8 : (0 : Int32).toInt = 0 := by decide
      replace c6 := i_eq.mp c6
      have f9 := add_i (a := ((12 : Int32) * v2)) (b := v1) (by omega) (by omega)
      refine ok_lt (fun x6 ex6 => ?_)
      replace ex6 := congrArg Int32.toInt ex6
      refine ok_gin (by omega) (by omega) ?_
      refine ok_ite (fun c10 => ?_) (fun c10 => ?_)
      · have f11 := rdM8 hS.1 (j := x6.toNatClampNeg)
        replace c10 := i_eq.mp c10
        exact sX12_findReach_154 hS (by omega) (by omega) (by omega) (by omega) (by omega) (by omega) (by omega) (by omega) xd (by rw [show (((12 : Int32) * v2) + v3) = x3 from Int32.toInt_inj.mp ex3.symm]; omega) hr76 hr84 hr92
      · have f12 := rdM8 hS.1 (j := x6.toNatClampNeg)
        replace c10 := i_ne.mp c10
        have f13 := mul_l (a := (12 : Int32)) (b := v1) 12 (by decide) (by omega) (by omega)
        have f14 := add_i (a := ((12 : Int32) * v1)) (b := v3) (by omega) (by omega)
        refine ok_lt (fun x9 ex9 => ?_)
        replace ex9 := congrArg Int32.toInt ex9
        refine ok_gin (by omega) (by omega) ?_
        refine ok_ite (fun c15 => ?_) (fun c15 => ?_)
        · have f16 := rdM8 hS.1 (j := x9.toNatClampNeg)
          replace c15 := i_eq.mp c15
          exact sX12_findReach_154 hS (by omega) (by omega) (by omega) (by omega) (by omega) (by omega) (by omega) (by omega) xd (by rw [show (((12 : Int32) * v2) + v3) = x3 from Int32.toInt_inj.mp ex3.symm]; omega) hr76 hr84 hr92
        · have f17 := rdM8 hS.1 (j := x9.toNatClampNeg)
          replace c15 := i_ne.mp c15
          exact sX12_findReach_150 hS (by omega) (by omega) (by omega) (by omega) (by omega) (by omega) (by omega) (by omega) xd hr76 hr84 hr92
    · have f18 := rdM8 hS.1 (j := x3.toNatClampNeg)
      have k19 : (0 : Int32).toInt = 0 := by decide
      replace c6 := i_ne.mp c6
      exact sX12_findReach_150 hS (by omega) (by omega) (by omega) (by omega) (by omega) (by omega) (by omega) (by omega) xd hr76 hr84 hr92
set_option maxHeartbeats 4000000 in
theorem sLX12_findReach_92 {s0 : Sg} {l0 : Lg} {r76 : (Int32 × Sg × Lg) → Option (Sg × Lg)} {r84 : (Int32 × Int32 × Sg × Lg) → Option (Sg × Lg)} {v1 : Int32} {v2 : Int32} {v3 : Int32} {sg : Sg} {lg : Lg} (hS : StM MX12_findReach s0 l0 sg lg) (v1l : 0 ≤ v1.toInt) (v1h : v1.toInt ≤ 11) (v2l : 0 ≤ v2.toInt) (v2h : v2.toInt ≤ 11) (v3l : 0 ≤ v3.toInt) (v3h : v3.toInt ≤ 12) (xd : (dg sg 12)) (hr76 : ∀ (v1' : Int32) (sg' : Sg) (lg' : Lg), StM MX12_findReach s0 l0 sg' lg' → 0 ≤ v1'.toInt → v1'.toInt ≤ 12 → (dg sg' 12) → v1.toInt < v1'.toInt → Ok (PVXM MX12_findReach s0 l0 (fun r => dg r 12)) (r76 (v1', sg', lg'))) (hr84 : ∀ (v1' : Int32) (v2' : Int32) (sg' : Sg) (lg' : Lg), StM MX12_findReach s0 l0 sg' lg' → 0 ≤ v1'.toInt → v1'.toInt ≤ 11 → 0 ≤ v2'.toInt → v2'.toInt ≤ 12 → (dg sg' 12) → (∀ (v1'' : Int32) (sg'' : Sg) (lg'' : Lg), StM MX12_findReach s0 l0 sg'' lg'' → 0 ≤ v1''.toInt → v1''.toInt ≤ 12 → (dg sg'' 12) → v1'.toInt < v1''.toInt → Ok (PVXM MX12_findReach s0 l0 (fun r => dg r 12)) (r76 (v1'', sg'', lg''))) → v2.toInt < v2'.toInt → Ok (PVXM MX12_findReach s0 l0 (fun r => dg r 12)) (r84 (v1', v2', sg', lg'))) : Ok (PVXM MX12_findReach s0 l0 (fun r => dg r 12)) (LX12_findReach_92 r76 r84 (v1, v2, v3, sg, lg)) := by
  unfold LX12_findReach_92
  refine ok_loop (I := fun (z : Int32 × Int32 × Int32 × Sg × Lg) => StM MX12_findReach s0 l0 z.2.2.2.1 z.2.2.2.2 ∧ 0 ≤ z.1.toInt ∧ z.1.toInt ≤ 11 ∧ 0 ≤ z.2.1.toInt ∧ z.2.1.toInt ≤ 11 ∧ 0 ≤ z.2.2.1.toInt ∧ z.2.2.1.toInt ≤ 12 ∧ (dg z.2.2.2.1 12) ∧ (∀ (v1' : Int32) (sg' : Sg) (lg' : Lg), StM MX12_findReach s0 l0 sg' lg' → 0 ≤ v1'.toInt → v1'.toInt ≤ 12 → (dg sg' 12) → z.1.toInt < v1'.toInt → Ok (PVXM MX12_findReach s0 l0 (fun r => dg r 12)) (r76 (v1', sg', lg'))) ∧ (∀ (v1' : Int32) (v2' : Int32) (sg' : Sg) (lg' : Lg), StM MX12_findReach s0 l0 sg' lg' → 0 ≤ v1'.toInt → v1'.toInt ≤ 11 → 0 ≤ v2'.toInt → v2'.toInt ≤ 12 → (dg sg' 12) → (∀ (v1'' : Int32) (sg'' : Sg) (lg'' : Lg), StM MX12_findReach s0 l0 sg'' lg'' → 0 ≤ v1''.toInt → v1''.toInt ≤ 12 → (dg sg'' 12) → v1'.toInt < v1''.toInt → Ok (PVXM MX12_findReach s0 l0 (fun r => dg r 12)) (r76 (v1'', sg'', lg''))) → z.2.1.toInt < v2'.toInt → Ok (PVXM MX12_findReach s0 l0 (fun r => dg r 12)) (r84 (v1', v2', sg', lg')))) (m := fun (z : Int32 × Int32 × Int32 × Sg × Lg) => (13 - z.2.2.1.toInt).toNat) _ ?_ ?_ _ ?_
  · intro z hz
    obtain ⟨h0, h1, h2, h3, h4, h5, h6, h7, h8, h9⟩ := hz
    show (13 - z.2.2.1.toInt).toNat < 10000
    omega
  · intro rec z hz hrec
    obtain ⟨v1, v2, v3, sg, lg⟩ := z
    replace hz : StM MX12_findReach s0 l0 sg lg ∧ 0 ≤ v1.toInt ∧ v1.toInt ≤ 11 ∧ 0 ≤ v2.toInt ∧ v2.toInt ≤ 11 ∧ 0 ≤ v3.toInt ∧ v3.toInt ≤ 12 ∧ (dg sg 12) ∧ (∀ (v1' : Int32) (sg' : Sg) (lg' : Lg), StM MX12_findReach s0 l0 sg' lg' → 0 ≤ v1'.toInt → v1'.toInt ≤ 12 → (dg sg' 12) → v1.toInt < v1'.toInt → Ok (PVXM MX12_findReach s0 l0 (fun r => dg r 12)) (r76 (v1', sg', lg'))) ∧ (∀ (v1' : Int32) (v2' : Int32) (sg' : Sg) (lg' : Lg), StM MX12_findReach s0 l0 sg' lg' → 0 ≤ v1'.toInt → v1'.toInt ≤ 11 → 0 ≤ v2'.toInt → v2'.toInt ≤ 12 → (dg sg' 12) → (∀ (v1'' : Int32) (sg'' : Sg) (lg'' : Lg), StM MX12_findReach s0 l0 sg'' lg'' → 0 ≤ v1''.toInt → v1''.toInt ≤ 12 → (dg sg'' 12) → v1'.toInt < v1''.toInt → Ok (PVXM MX12_findReach s0 l0 (fun r => dg r 12)) (r76 (v1'', sg'', lg''))) → v2.toInt < v2'.toInt → Ok (PVXM MX12_findReach s0 l0 (fun r => dg r 12)) (r84 (v1', v2', sg', lg'))) := hz
    obtain ⟨h0, h1, h2, h3, h4, h5, h6, h7, h8, h9⟩ := hz
    show Ok (PVXM MX12_findReach s0 l0 (fun r => dg r 12)) (fX12_findReach_92 r76 r84 rec v1 v2 v3 sg lg)
    exact sX12_findReach_92 h0 h1 h2 h3 h4 h5 h6 h7 h8 h9 (fun v1' v2' v3' sg' lg' g0 g1 g2 g3 g4 g5 g6 g7 g8 g9 g10 => hrec (v1', v2', v3', sg', lg') ⟨g0, g1, g2, g3, g4, g5, g6, g7, g8, g9⟩ (show (13 - v3'.toInt).toNat < (13 - v3.toInt).toNat by omega))
  · exact ⟨hS, v1l, v1h, v2l, v2h, v3l, v3h, xd, hr76, hr84⟩
set_option maxHeartbeats 4000000 in
theorem sX12_findReach_84 {s0 : Sg} {l0 : Lg} {r76 : (Int32 × Sg × Lg) → Option (Sg × Lg)} {r84 : (Int32 × Int32 × Sg × Lg) → Option (Sg × Lg)} {v1 : Int32} {v2 : Int32} {sg : Sg} {lg : Lg} (hS : StM MX12_findReach s0 l0 sg lg) (v1l : 0 ≤ v1.toInt) (v1h : v1.toInt ≤ 11) (v2l : 0 ≤ v2.toInt) (v2h : v2.toInt ≤ 12) (xd : dg sg 12) (hr76 : ∀ (v1' : Int32) (sg' : Sg) (lg' : Lg), StM MX12_findReach s0 l0 sg' lg' → 0 ≤ v1'.toInt → v1'.toInt ≤ 12 → (dg sg' 12) → v1.toInt < v1'.toInt → Ok (PVXM MX12_findReach s0 l0 (fun r => dg r 12)) (r76 (v1', sg', lg'))) (hr84 : ∀ (v1' : Int32) (v2' : Int32) (sg' : Sg) (lg' : Lg), StM MX12_findReach s0 l0 sg' lg' → 0 ≤ v1'.toInt → v1'.toInt ≤ 11 → 0 ≤ v2'.toInt → v2'.toInt ≤ 12 → (dg sg' 12) → (∀ (v1'' : Int32) (sg'' : Sg) (lg'' : Lg), StM MX12_findReach s0 l0 sg'' lg'' → 0 ≤ v1''.toInt → v1''.toInt ≤ 12 → (dg sg'' 12) → v1'.toInt < v1''.toInt → Ok (PVXM MX12_findReach s0 l0 (fun r => dg r 12)) (r76 (v1'', sg'', lg''))) → v2.toInt < v2'.toInt → Ok (PVXM MX12_findReach s0 l0 (fun r => dg r 12)) (r84 (v1', v2', sg', lg'))) : Ok (PVXM MX12_findReach s0 l0 (fun r => dg r 12)) (fX12_findReach_84 r76 r84 v1 v2 sg lg) := by
  unfold fX12_findReach_84
  refine ok_ite (fun c1 => ?_) (fun c1 => ?_)
  · have k2 : (12 : Int32).toInt = 12 := by decide
    replace c1 := i_le.mp c1
    refine ok_lt (fun x2 ex2 => ?_)
    replace ex2 : x2.toInt = v1.toInt + 1 := by rw [ex2]; exact add_c 1 (by decide) (by omega) (by omega)
    exact hr76 x2 sg lg hS (by omega) (by omega) xd (by omega)
  · have k3 : (12 : Int32).toInt = 12 := by decide
    replace c1 := i_nle.mp c1
    have k4 : (0 : Int32).toInt = 0 := by decide
    exact sLX12_findReach_92 hS (by omega) (by omega) (by omega) (by omega) (by omega) (by omega) xd hr76 hr84
set_option maxHeartbeats 4000000 in
theorem sLX12_findReach_84 {s0 : Sg} {l0 : Lg} {r76 : (Int32 × Sg × Lg) → Option (Sg × Lg)} {v1 : Int32} {v2 : Int32} {sg : Sg} {lg : Lg} (hS : StM MX12_findReach s0 l0 sg lg) (v1l : 0 ≤ v1.toInt) (v1h : v1.toInt ≤ 11) (v2l : 0 ≤ v2.toInt) (v2h : v2.toInt ≤ 12) (xd : (dg sg 12)) (hr76 : ∀ (v1' : Int32) (sg' : Sg) (lg' : Lg), StM MX12_findReach s0 l0 sg' lg' → 0 ≤ v1'.toInt → v1'.toInt ≤ 12 → (dg sg' 12) → v1.toInt < v1'.toInt → Ok (PVXM MX12_findReach s0 l0 (fun r => dg r 12)) (r76 (v1', sg', lg'))) : Ok (PVXM MX12_findReach s0 l0 (fun r => dg r 12)) (LX12_findReach_84 r76 (v1, v2, sg, lg)) := by
  unfold LX12_findReach_84
  refine ok_loop (I := fun (z : Int32 × Int32 × Sg × Lg) => StM MX12_findReach s0 l0 z.2.2.1 z.2.2.2 ∧ 0 ≤ z.1.toInt ∧ z.1.toInt ≤ 11 ∧ 0 ≤ z.2.1.toInt ∧ z.2.1.toInt ≤ 12 ∧ (dg z.2.2.1 12) ∧ (∀ (v1' : Int32) (sg' : Sg) (lg' : Lg), StM MX12_findReach s0 l0 sg' lg' → 0 ≤ v1'.toInt → v1'.toInt ≤ 12 → (dg sg' 12) → z.1.toInt < v1'.toInt → Ok (PVXM MX12_findReach s0 l0 (fun r => dg r 12)) (r76 (v1', sg', lg')))) (m := fun (z : Int32 × Int32 × Sg × Lg) => (13 - z.2.1.toInt).toNat) _ ?_ ?_ _ ?_
  · intro z hz
    obtain ⟨h0, h1, h2, h3, h4, h5, h6⟩ := hz
    show (13 - z.2.1.toInt).toNat < 10000
    omega
  · intro rec z hz hrec
    obtain ⟨v1, v2, sg, lg⟩ := z
    replace hz : StM MX12_findReach s0 l0 sg lg ∧ 0 ≤ v1.toInt ∧ v1.toInt ≤ 11 ∧ 0 ≤ v2.toInt ∧ v2.toInt ≤ 12 ∧ (dg sg 12) ∧ (∀ (v1' : Int32) (sg' : Sg) (lg' : Lg), StM MX12_findReach s0 l0 sg' lg' → 0 ≤ v1'.toInt → v1'.toInt ≤ 12 → (dg sg' 12) → v1.toInt < v1'.toInt → Ok (PVXM MX12_findReach s0 l0 (fun r => dg r 12)) (r76 (v1', sg', lg'))) := hz
    obtain ⟨h0, h1, h2, h3, h4, h5, h6⟩ := hz
    show Ok (PVXM MX12_findReach s0 l0 (fun r => dg r 12)) (fX12_findReach_84 r76 rec v1 v2 sg lg)
    exact sX12_findReach_84 h0 h1 h2 h3 h4 h5 h6 (fun v1' v2' sg' lg' g0 g1 g2 g3 g4 g5 g6 g7 => hrec (v1', v2', sg', lg') ⟨g0, g1, g2, g3, g4, g5, g6⟩ (show (13 - v2'.toInt).toNat < (13 - v2.toInt).toNat by omega))
  · exact ⟨hS, v1l, v1h, v2l, v2h, xd, hr76⟩
set_option maxHeartbeats 4000000 in
theorem sX12_findReach_76 {s0 : Sg} {l0 : Lg} {r76 : (Int32 × Sg × Lg) → Option (Sg × Lg)} {v1 : Int32} {sg : Sg} {lg : Lg} (hS : StM MX12_findReach s0 l0 sg lg) (v1l : 0 ≤ v1.toInt) (v1h : v1.toInt ≤ 12) (xd : dg sg 12) (hr76 : ∀ (v1' : Int32) (sg' : Sg) (lg' : Lg), StM MX12_findReach s0 l0 sg' lg' → 0 ≤ v1'.toInt → v1'.toInt ≤ 12 → (dg sg' 12) → v1.toInt < v1'.toInt → Ok (PVXM MX12_findReach s0 l0 (fun r => dg r 12)) (r76 (v1', sg', lg'))) : Ok (PVXM MX12_findReach s0 l0 (fun r => dg r 12)) (fX12_findReach_76 r76 v1 sg lg) := by
  unfold fX12_findReach_76
  refine ok_ite (fun c1 => ?_) (fun c1 => ?_)
  · have k2 : (12 : Int32).toInt = 12 := by decide
    replace c1 := i_le.mp c1
    exact ok_some (mkPVXM hS xd)
  · have k3 : (12 : Int32).toInt = 12 := by decide
    replace c1 := i_nle.mp c1
    have k4 : (0 : Int32).toInt = 0 := by decide
    exact sLX12_findReach_84 hS (by omega) (by omega) (by omega) (by omega) xd hr76
set_option maxHeartbeats 4000000 in
theorem sLX12_findReach_76 {s0 : Sg} {l0 : Lg} {v1 : Int32} {sg : Sg} {lg : Lg} (hS : StM MX12_findReach s0 l0 sg lg) (v1l : 0 ≤ v1.toInt) (v1h : v1.toInt ≤ 12) (xd : (dg sg 12)) : Ok (PVXM MX12_findReach s0 l0 (fun r => dg r 12)) (LX12_findReach_76 (v1, sg, lg)) := by
  unfold LX12_findReach_76
  refine ok_loop (I := fun (z : Int32 × Sg × Lg) => StM MX12_findReach s0 l0 z.2.1 z.2.2 ∧ 0 ≤ z.1.toInt ∧ z.1.toInt ≤ 12 ∧ (dg z.2.1 12)) (m := fun (z : Int32 × Sg × Lg) => (13 - z.1.toInt).toNat) _ ?_ ?_ _ ?_
  · intro z hz
    obtain ⟨h0, h1, h2, h3⟩ := hz
    show (13 - z.1.toInt).toNat < 10000
    omega
  · intro rec z hz hrec
    obtain ⟨v1, sg, lg⟩ := z
    replace hz : StM MX12_findReach s0 l0 sg lg ∧ 0 ≤ v1.toInt ∧ v1.toInt ≤ 12 ∧ (dg sg 12) := hz
    obtain ⟨h0, h1, h2, h3⟩ := hz
    show Ok (PVXM MX12_findReach s0 l0 (fun r => dg r 12)) (fX12_findReach_76 rec v1 sg lg)
    exact sX12_findReach_76 h0 h1 h2 h3 (fun v1' sg' lg' g0 g1 g2 g3 g4 => hrec (v1', sg', lg') ⟨g0, g1, g2, g3⟩ (show (13 - v1'.toInt).toNat < (13 - v1.toInt).toNat by omega))
  · exact ⟨hS, v1l, v1h, xd⟩
set_option maxHeartbeats 4000000 in
theorem sX12_findReach_61 {s0 : Sg} {l0 : Lg} {r2 : (Int32 × Sg × Lg) → Option (Sg × Lg)} {r10 : (Int32 × Int32 × Sg × Lg) → Option (Sg × Lg)} {v1 : Int32} {v2 : Int32} {w0 : Int32} {w1 : Int32} {sg : Sg} {lg : Lg} (hS : StM MX12_findReach s0 l0 sg lg) (v1l : 0 ≤ v1.toInt) (v1h : v1.toInt ≤ 11) (v2l : 0 ≤ v2.toInt) (v2h : v2.toInt ≤ 11) (w0l : 0 ≤ w0.toInt) (w0h : w0.toInt ≤ 1) (w1l : 0 ≤ w1.toInt) (w1h : w1.toInt ≤ 143) (xd : dg1 sg v1 v2) (xi : w1.toInt = 12 * v1.toInt + v2.toInt) (xv : v1.toInt ≠ v2.toInt ∨ w0.toInt = 1) (hr2 : ∀ (v1' : Int32) (sg' : Sg) (lg' : Lg), StM MX12_findReach s0 l0 sg' lg' → 0 ≤ v1'.toInt → v1'.toInt ≤ 12 → (dg sg' v1'.toInt) → v1.toInt < v1'.toInt → Ok (PVXM MX12_findReach s0 l0 (fun r => dg r 12)) (r2 (v1', sg', lg'))) (hr10 : ∀ (v1' : Int32) (v2' : Int32) (sg' : Sg) (lg' : Lg), StM MX12_findReach s0 l0 sg' lg' → 0 ≤ v1'.toInt → v1'.toInt ≤ 11 → 0 ≤ v2'.toInt → v2'.toInt ≤ 12 → (dg1 sg' v1' v2') → (∀ (v1'' : Int32) (sg'' : Sg) (lg'' : Lg), StM MX12_findReach s0 l0 sg'' lg'' → 0 ≤ v1''.toInt → v1''.toInt ≤ 12 → (dg sg'' v1''.toInt) → v1'.toInt < v1''.toInt → Ok (PVXM MX12_findReach s0 l0 (fun r => dg r 12)) (r2 (v1'', sg'', lg''))) → v2.toInt < v2'.toInt → Ok (PVXM MX12_findReach s0 l0 (fun r => dg r 12)) (r10 (v1', v2', sg', lg'))) : Ok (PVXM MX12_findReach s0 l0 (fun r => dg r 12)) (fX12_findReach_61 r2 r10 v1 v2 w0 w1 sg lg) := by
  unfold fX12_findReach_61
  refine ok_gin (by omega) (by omega) ?_
  have k1 : (1 : Int32).toInt = 1 := by decide
  have f2 := and_l (a := w0) (b := 1) (by omega)
  have f3 := and_r (a := w0) (b := 1) (by omega)
  refine ok_lt (fun sg2 esg2 => ?_)
  have hS4 := upM8 hS (by decide) esg2 (by omega) (by omega)
  refine ok_lt (fun x3 ex3 => ?_)
  replace ex3 : x3.toInt = v2.toInt + 1 := by rw [ex3]; exact add_c 1 (by decide) (by omega) (by omega)
  exact hr10 v1 x3 sg2 lg hS4 (by omega) (by omega) (by omega) (by omega) (dg1_up xd esg2 (by omega) (by omega) (by omega) (by omega) (by omega) (by omega) (by omega)) hr2 (by omega)
set_option maxHeartbeats 4000000 in
theorem sX12_findReach_56 {s0 : Sg} {l0 : Lg} {r2 : (Int32 × Sg × Lg) → Option (Sg × Lg)} {r10 : (Int32 × Int32 × Sg × Lg) → Option (Sg × Lg)} {v1 : Int32} {v2 : Int32} {w0 : Int32} {sg : Sg} {lg : Lg} (hS : StM MX12_findReach s0 l0 sg lg) (v1l : 0 ≤ v1.toInt) (v1h : v1.toInt ≤ 11) (v2l : 0 ≤ v2.toInt) (v2h : v2.toInt ≤ 11) (w0l : 0 ≤ w0.toInt) (w0h : w0.toInt ≤ 143) (xd : dg1 sg v1 v2) (xi : w0.toInt = 12 * v1.toInt + v2.toInt) (hr2 : ∀ (v1' : Int32) (sg' : Sg) (lg' : Lg), StM MX12_findReach s0 l0 sg' lg' → 0 ≤ v1'.toInt → v1'.toInt ≤ 12 → (dg sg' v1'.toInt) → v1.toInt < v1'.toInt → Ok (PVXM MX12_findReach s0 l0 (fun r => dg r 12)) (r2 (v1', sg', lg'))) (hr10 : ∀ (v1' : Int32) (v2' : Int32) (sg' : Sg) (lg' : Lg), StM MX12_findReach s0 l0 sg' lg' → 0 ≤ v1'.toInt → v1'.toInt ≤ 11 → 0 ≤ v2'.toInt → v2'.toInt ≤ 12 → (dg1 sg' v1' v2') → (∀ (v1'' : Int32) (sg'' : Sg) (lg'' : Lg), StM MX12_findReach s0 l0 sg'' lg'' → 0 ≤ v1''.toInt → v1''.toInt ≤ 12 → (dg sg'' v1''.toInt) → v1'.toInt < v1''.toInt → Ok (PVXM MX12_findReach s0 l0 (fun r => dg r 12)) (r2 (v1'', sg'', lg''))) → v2.toInt < v2'.toInt → Ok (PVXM MX12_findReach s0 l0 (fun r => dg r 12)) (r10 (v1', v2', sg', lg'))) : Ok (PVXM MX12_findReach s0 l0 (fun r => dg r 12)) (fX12_findReach_56 r2 r10 v1 v2 w0 sg lg) := by
  unfold fX12_findReach_56
  have k1 : (1 : Int32).toInt = 1 := by decide
  exact sX12_findReach_61 hS (by omega) (by omega) (by omega) (by omega) (by omega) (by omega) (by omega) (by omega) xd (by omega) (by omega) hr2 hr10
set_option maxHeartbeats 4000000 in
theorem sX12_findReach_60 {s0 : Sg} {l0 : Lg} {r2 : (Int32 × Sg × Lg) → Option (Sg × Lg)} {r10 : (Int32 × Int32 × Sg × Lg) → Option (Sg × Lg)} {v1 : Int32} {v2 : Int32} {w0 : Int32} {sg : Sg} {lg : Lg} (hS : StM MX12_findReach s0 l0 sg lg) (v1l : 0 ≤ v1.toInt) (v1h : v1.toInt ≤ 11) (v2l : 0 ≤ v2.toInt) (v2h : v2.toInt ≤ 11) (w0l : 0 ≤ w0.toInt) (w0h : w0.toInt ≤ 143) (xd : dg1 sg v1 v2) (xi : w0.toInt = 12 * v1.toInt + v2.toInt) (xv : v1.toInt ≠ v2.toInt) (hr2 : ∀ (v1' : Int32) (sg' : Sg) (lg' : Lg), StM MX12_findReach s0 l0 sg' lg' → 0 ≤ v1'.toInt → v1'.toInt ≤ 12 → (dg sg' v1'.toInt) → v1.toInt < v1'.toInt → Ok (PVXM MX12_findReach s0 l0 (fun r => dg r 12)) (r2 (v1', sg', lg'))) (hr10 : ∀ (v1' : Int32) (v2' : Int32) (sg' : Sg) (lg' : Lg), StM MX12_findReach s0 l0 sg' lg' → 0 ≤ v1'.toInt → v1'.toInt ≤ 11 → 0 ≤ v2'.toInt → v2'.toInt ≤ 12 → (dg1 sg' v1' v2') → (∀ (v1'' : Int32) (sg'' : Sg) (lg'' : Lg), StM MX12_findReach s0 l0 sg'' lg'' → 0 ≤ v1''.toInt → v1''.toInt ≤ 12 → (dg sg'' v1''.toInt) → v1'.toInt < v1''.toInt → Ok (PVXM MX12_findReach s0 l0 (fun r => dg r 12)) (r2 (v1'', sg'', lg''))) → v2.toInt < v2'.toInt → Ok (PVXM MX12_findReach s0 l0 (fun r => dg r 12)) (r10 (v1', v2', sg', lg'))) : Ok (PVXM MX12_findReach s0 l0 (fun r => dg r 12)) (fX12_findReach_60 r2 r10 v1 v2 w0 sg lg) := by
  unfold fX12_findReach_60
  have k1 : (0 : Int32).toInt = 0 := by decide
  exact sX12_findReach_61 hS (by omega) (by omega) (by omega) (by omega) (by omega) (by omega) (by omega) (by omega) xd (by omega) (by omega) hr2 hr10
set_option maxHeartbeats 4000000 in
theorem sX12_findReach_10 {s0 : Sg} {l0 : Lg} {r2 : (Int32 × Sg × Lg) → Option (Sg × Lg)} {r10 : (Int32 × Int32 × Sg × Lg) → Option (Sg × Lg)} {v1 : Int32} {v2 : Int32} {sg : Sg} {lg : Lg} (hS : StM MX12_findReach s0 l0 sg lg) (v1l : 0 ≤ v1.toInt) (v1h : v1.toInt ≤ 11) (v2l : 0 ≤ v2.toInt) (v2h : v2.toInt ≤ 12) (xd : dg1 sg v1 v2) (hr2 : ∀ (v1' : Int32) (sg' : Sg) (lg' : Lg), StM MX12_findReach s0 l0 sg' lg' → 0 ≤ v1'.toInt → v1'.toInt ≤ 12 → (dg sg' v1'.toInt) → v1.toInt < v1'.toInt → Ok (PVXM MX12_findReach s0 l0 (fun r => dg r 12)) (r2 (v1', sg', lg'))) (hr10 : ∀ (v1' : Int32) (v2' : Int32) (sg' : Sg) (lg' : Lg), StM MX12_findReach s0 l0 sg' lg' → 0 ≤ v1'.toInt → v1'.toInt ≤ 11 → 0 ≤ v2'.toInt → v2'.toInt ≤ 12 → (dg1 sg' v1' v2') → (∀ (v1'' : Int32) (sg'' : Sg) (lg'' : Lg), StM MX12_findReach s0 l0 sg'' lg'' → 0 ≤ v1''.toInt → v1''.toInt ≤ 12 → (dg sg'' v1''.toInt) → v1'.toInt < v1''.toInt → Ok (PVXM MX12_findReach s0 l0 (fun r => dg r 12)) (r2 (v1'', sg'', lg''))) → v2.toInt < v2'.toInt → Ok (PVXM MX12_findReach s0 l0 (fun r => dg r 12)) (r10 (v1', v2', sg', lg'))) : Ok (PVXM MX12_findReach s0 l0 (fun r => dg r 12)) (fX12_findReach_10 r2 r10 v1 v2 sg lg) := by
  unfold fX12_findReach_10
  refine ok_ite (fun c1 => ?_) (fun c1 => ?_)
  · have k2 : (12 : Int32).toInt = 12 := by decide
    replace c1 := i_le.mp c1
    refine ok_lt (fun x2 ex2 => ?_)
    replace ex2 : x2.toInt = v1.toInt + 1 := by rw [ex2]; exact add_c 1 (by decide) (by omega) (by omega)
    exact hr2 x2 sg lg hS (by omega) (by omega) (dg_next xd (by omega) (by omega) (by omega)) (by omega)
  · have k3 : (12 : Int32).toInt = 12 := by decide
    replace c1 := i_nle.mp c1
    refine ok_ite (fun c4 => ?_) (fun c4 => ?_)
    · replace c4 := i_eq.mp c4
      have f5 := mul_l (a := (12 : Int32)) (b := v1) 12 (by decide) (by omega) (by omega)
      have f6 := add_i (a := ((12 : Int32) * v1)) (b := v2) (by omega) (by omega)
      exact sX12_findReach_56 hS (by omega) (by omega) (by omega) (by omega) (by omega) (by omega) xd (by omega) hr2 hr10
    · replace c4 := i_ne.mp c4
      refine bnd3_pxM (sX12_counts (v1 := v1) hS.1) (fun y4 qy4 zy4 xy4 => ?_)
      replace xy4 : y4.toInt = 0 ∨ (0 ≤ v1.toInt ∧ v1.toInt ≤ 11) := xy4
      refine ok_ite (fun c7 => ?_) (fun c7 => ?_)
      · have k8 : (0 : Int32).toInt = 0 := by decide
        replace c7 := i_eq.mp c7
        have f9 := mul_l (a := (12 : Int32)) (b := v1) 12 (by decide) (by omega) (by omega)
        have f10 := add_i (a := ((12 : Int32) * v1)) (b := v2) (by omega) (by omega)
        exact sX12_findReach_60 hS (by omega) (by omega) (by omega) (by omega) (by omega) (by omega) xd (by omega) (by omega) hr2 hr10
      · have k11 : (0 : Int32).toInt = 0 := by decide
        replace c7 := i_ne.mp c7
        refine bnd3_pxM (sX12_counts (v1 := v2) hS.1) (fun y9 qy9 zy9 xy9 => ?_)
        replace xy9 : y9.toInt = 0 ∨ (0 ≤ v2.toInt ∧ v2.toInt ≤ 11) := xy9
        refine ok_ite (fun c12 => ?_) (fun c12 => ?_)
        · replace c12 := i_eq.mp c12
          have f13 := mul_l (a := (12 : Int32)) (b := v1) 12 (by decide) (by omega) (by omega)
          have f14 := add_i (a := ((12 : Int32) * v1)) (b := v2) (by omega) (by omega)
          exact sX12_findReach_60 hS (by omega) (by omega) (by omega) (by omega) (by omega) (by omega) xd (by omega) (by omega) hr2 hr10
        · replace c12 := i_ne.mp c12
          refine bnd3_puM (sX12_peckOf (v1 := v1) (v2 := v2) hS.1 (by omega) (by omega) (by omega) (by omega)) (fun y14 qy14 zy14 => ?_)
          refine ok_ite (fun c15 => ?_) (fun c15 => ?_)
          · replace c15 := i_le.mp c15
            have f16 := mul_l (a := (12 : Int32)) (b := v1) 12 (by decide) (by omega) (by omega)
            have f17 := add_i (a := ((12 : Int32) * v1)) (b := v2) (by omega) (by omega)
            exact sX12_findReach_60 hS (by omega) (by omega) (by omega) (by omega) (by omega) (by omega) xd (by omega) (by omega) hr2 hr10
          · replace c15 := i_nle.mp c15
            have f18 := mul_l (a := (12 : Int32)) (b := v1) 12 (by decide) (by omega) (by omega)
            have f19 := add_i (a := ((12 : Int32) * v1)) (b := v2) (by omega) (by omega)
            exact sX12_findReach_56 hS (by omega) (by omega) (by omega) (by omega) (by omega) (by omega) xd (by omega) hr2 hr10
set_option maxHeartbeats 4000000 in
theorem sLX12_findReach_10 {s0 : Sg} {l0 : Lg} {r2 : (Int32 × Sg × Lg) → Option (Sg × Lg)} {v1 : Int32} {v2 : Int32} {sg : Sg} {lg : Lg} (hS : StM MX12_findReach s0 l0 sg lg) (v1l : 0 ≤ v1.toInt) (v1h : v1.toInt ≤ 11) (v2l : 0 ≤ v2.toInt) (v2h : v2.toInt ≤ 12) (xd : (dg1 sg v1 v2)) (hr2 : ∀ (v1' : Int32) (sg' : Sg) (lg' : Lg), StM MX12_findReach s0 l0 sg' lg' → 0 ≤ v1'.toInt → v1'.toInt ≤ 12 → (dg sg' v1'.toInt) → v1.toInt < v1'.toInt → Ok (PVXM MX12_findReach s0 l0 (fun r => dg r 12)) (r2 (v1', sg', lg'))) : Ok (PVXM MX12_findReach s0 l0 (fun r => dg r 12)) (LX12_findReach_10 r2 (v1, v2, sg, lg)) := by
  unfold LX12_findReach_10
  refine ok_loop (I := fun (z : Int32 × Int32 × Sg × Lg) => StM MX12_findReach s0 l0 z.2.2.1 z.2.2.2 ∧ 0 ≤ z.1.toInt ∧ z.1.toInt ≤ 11 ∧ 0 ≤ z.2.1.toInt ∧ z.2.1.toInt ≤ 12 ∧ (dg1 z.2.2.1 z.1 z.2.1) ∧ (∀ (v1' : Int32) (sg' : Sg) (lg' : Lg), StM MX12_findReach s0 l0 sg' lg' → 0 ≤ v1'.toInt → v1'.toInt ≤ 12 → (dg sg' v1'.toInt) → z.1.toInt < v1'.toInt → Ok (PVXM MX12_findReach s0 l0 (fun r => dg r 12)) (r2 (v1', sg', lg')))) (m := fun (z : Int32 × Int32 × Sg × Lg) => (13 - z.2.1.toInt).toNat) _ ?_ ?_ _ ?_
  · intro z hz
    obtain ⟨h0, h1, h2, h3, h4, h5, h6⟩ := hz
    show (13 - z.2.1.toInt).toNat < 10000
    omega
  · intro rec z hz hrec
    obtain ⟨v1, v2, sg, lg⟩ := z
    replace hz : StM MX12_findReach s0 l0 sg lg ∧ 0 ≤ v1.toInt ∧ v1.toInt ≤ 11 ∧ 0 ≤ v2.toInt ∧ v2.toInt ≤ 12 ∧ (dg1 sg v1 v2) ∧ (∀ (v1' : Int32) (sg' : Sg) (lg' : Lg), StM MX12_findReach s0 l0 sg' lg' → 0 ≤ v1'.toInt → v1'.toInt ≤ 12 → (dg sg' v1'.toInt) → v1.toInt < v1'.toInt → Ok (PVXM MX12_findReach s0 l0 (fun r => dg r 12)) (r2 (v1', sg', lg'))) := hz
    obtain ⟨h0, h1, h2, h3, h4, h5, h6⟩ := hz
    show Ok (PVXM MX12_findReach s0 l0 (fun r => dg r 12)) (fX12_findReach_10 r2 rec v1 v2 sg lg)
    exact sX12_findReach_10 h0 h1 h2 h3 h4 h5 h6 (fun v1' v2' sg' lg' g0 g1 g2 g3 g4 g5 g6 g7 => hrec (v1', v2', sg', lg') ⟨g0, g1, g2, g3, g4, g5, g6⟩ (show (13 - v2'.toInt).toNat < (13 - v2.toInt).toNat by omega))
  · exact ⟨hS, v1l, v1h, v2l, v2h, xd, hr2⟩
set_option maxHeartbeats 4000000 in
theorem sX12_findReach_2 {s0 : Sg} {l0 : Lg} {r2 : (Int32 × Sg × Lg) → Option (Sg × Lg)} {v1 : Int32} {sg : Sg} {lg : Lg} (hS : StM MX12_findReach s0 l0 sg lg) (v1l : 0 ≤ v1.toInt) (v1h : v1.toInt ≤ 12) (xd : dg sg v1.toInt) (hr2 : ∀ (v1' : Int32) (sg' : Sg) (lg' : Lg), StM MX12_findReach s0 l0 sg' lg' → 0 ≤ v1'.toInt → v1'.toInt ≤ 12 → (dg sg' v1'.toInt) → v1.toInt < v1'.toInt → Ok (PVXM MX12_findReach s0 l0 (fun r => dg r 12)) (r2 (v1', sg', lg'))) : Ok (PVXM MX12_findReach s0 l0 (fun r => dg r 12)) (fX12_findReach_2 r2 v1 sg lg) := by
  unfold fX12_findReach_2
  refine ok_ite (fun c1 => ?_) (fun c1 => ?_)
  · have k2 : (12 : Int32).toInt = 12 := by decide
    replace c1 := i_le.mp c1
    have k3 : (0 : Int32).toInt = 0 := by decide
    exact sLX12_findReach_76 hS (by omega) (by omega) (fun x p q => xd x p (by omega))
  · have k4 : (12 : Int32).toInt = 12 := by decide
    replace c1 := i_nle.mp c1
    have k5 : (0 : Int32).toInt = 0 := by decide
    exact sLX12_findReach_10 hS (by omega) (by omega) (by omega) (by omega) ⟨xd, Or.inl (by omega)⟩ hr2
set_option maxHeartbeats 4000000 in
theorem sLX12_findReach_2 {s0 : Sg} {l0 : Lg} {v1 : Int32} {sg : Sg} {lg : Lg} (hS : StM MX12_findReach s0 l0 sg lg) (v1l : 0 ≤ v1.toInt) (v1h : v1.toInt ≤ 12) (xd : (dg sg v1.toInt)) : Ok (PVXM MX12_findReach s0 l0 (fun r => dg r 12)) (LX12_findReach_2 (v1, sg, lg)) := by
  unfold LX12_findReach_2
  refine ok_loop (I := fun (z : Int32 × Sg × Lg) => StM MX12_findReach s0 l0 z.2.1 z.2.2 ∧ 0 ≤ z.1.toInt ∧ z.1.toInt ≤ 12 ∧ (dg z.2.1 z.1.toInt)) (m := fun (z : Int32 × Sg × Lg) => (13 - z.1.toInt).toNat) _ ?_ ?_ _ ?_
  · intro z hz
    obtain ⟨h0, h1, h2, h3⟩ := hz
    show (13 - z.1.toInt).toNat < 10000
    omega
  · intro rec z hz hrec
    obtain ⟨v1, sg, lg⟩ := z
    replace hz : StM MX12_findReach s0 l0 sg lg ∧ 0 ≤ v1.toInt ∧ v1.toInt ≤ 12 ∧ (dg sg v1.toInt) := hz
    obtain ⟨h0, h1, h2, h3⟩ := hz
    show Ok (PVXM MX12_findReach s0 l0 (fun r => dg r 12)) (fX12_findReach_2 rec v1 sg lg)
    exact sX12_findReach_2 h0 h1 h2 h3 (fun v1' sg' lg' g0 g1 g2 g3 g4 => hrec (v1', sg', lg') ⟨g0, g1, g2, g3⟩ (show (13 - v1'.toInt).toNat < (13 - v1.toInt).toNat by omega))
  · exact ⟨hS, v1l, v1h, xd⟩
set_option maxHeartbeats 4000000 in
theorem sX12_findReach {sg : Sg} {lg : Lg} (hI : IM sg lg) : Ok (PVXM MX12_findReach sg lg (fun r => dg r 12)) (fX12_findReach sg lg) := by
  have hS : StM MX12_findReach sg lg sg lg := StM.rf hI
  unfold fX12_findReach
  have k1 : (0 : Int32).toInt = 0 := by decide
  exact sLX12_findReach_2 hS (by omega) (by omega) (fun x p q => by omega)
set_option maxHeartbeats 4000000 in
theorem sX12_isOne {v1 : Int32} {v2 : Int32} {sg : Sg} {lg : Lg} (hI : IM sg lg) (v1l : 0 ≤ v1.toInt) (v1h : v1.toInt ≤ 11) (v2l : 0 ≤ v2.toInt) (v2h : v2.toInt ≤ 11) : Ok (PUM sg lg 0 1) (fX12_isOne v1 v2 sg lg) := by
  unfold fX12_isOne
  have k1 : (12 : Int32).toInt = 12 := by decide
  have f2 := mul_l (a := (12 : Int32)) (b := v1) 12 (by decide) (by omega) (by omega)
  have f3 := add_i (a := ((12 : Int32) * v1)) (b := v2) (by omega) (by omega)
  refine ok_lt (fun x1 ex1 => ?_)
  replace ex1 := congrArg Int32.toInt ex1
  refine ok_gin (by omega) (by omega) ?_
  refine ok_ite (fun c4 => ?_) (fun c4 => ?_)
  · have f5 := rdM8 hI (j := x1.toNatClampNeg)
    have k6 : (0 : Int32).toInt = 0 := by decide
    replace c4 := i_eq.mp c4
    exact ok_some (mkPUM (by omega) (by omega))
  · have f7 := rdM8 hI (j := x1.toNatClampNeg)
    have k8 : (0 : Int32).toInt = 0 := by decide
    replace c4 := i_ne.mp c4
    have f9 := mul_l (a := (12 : Int32)) (b := v2) 12 (by decide) (by omega) (by omega)
    have f10 := add_i (a := ((12 : Int32) * v2)) (b := v1) (by omega) (by omega)
    refine ok_lt (fun x4 ex4 => ?_)
    replace ex4 := congrArg Int32.toInt ex4
    refine ok_gin (by omega) (by omega) ?_
    refine ok_ite (fun c11 => ?_) (fun c11 => ?_)
    · have f12 := rdM8 hI (j := x4.toNatClampNeg)
      replace c11 := i_eq.mp c11
      exact ok_some (mkPUM (by omega) (by omega))
    · have f13 := rdM8 hI (j := x4.toNatClampNeg)
      replace c11 := i_ne.mp c11
      have k14 : (1 : Int32).toInt = 1 := by decide
      exact ok_some (mkPUM (by omega) (by omega))
set_option maxHeartbeats 4000000 in
theorem sX12_isNext_80 {r23 : (Int32 × Int32 × Int32 × Sg × Lg) → Option (Int32 × Sg × Lg)} {v1 : Int32} {v3 : Int32} {w0 : Int32} {sg : Sg} {lg : Lg} (hI : IM sg lg) (v1l : 0 ≤ v1.toInt) (v1h : v1.toInt ≤ 11) (v3l : 0 ≤ v3.toInt) (v3h : v3.toInt ≤ 11) (w0l : 0 ≤ w0.toInt) (w0h : w0.toInt ≤ 1) (hr23 : ∀ (v1' : Int32) (v2' : Int32) (v3' : Int32), 0 ≤ v1'.toInt → v1'.toInt ≤ 11 → 0 ≤ v2'.toInt → v2'.toInt ≤ 1 → 0 ≤ v3'.toInt → v3'.toInt ≤ 12 → v3.toInt < v3'.toInt → Ok (PUM sg lg 0 1) (r23 (v1', v2', v3', sg, lg))) : Ok (PUM sg lg 0 1) (fX12_isNext_80 r23 v1 v3 w0 sg lg) := by
  unfold fX12_isNext_80
  refine ok_lt (fun x1 ex1 => ?_)
  replace ex1 : x1.toInt = v3.toInt + 1 := by rw [ex1]; exact add_c 1 (by decide) (by omega) (by omega)
  exact hr23 v1 w0 x1 (by omega) (by omega) (by omega) (by omega) (by omega) (by omega) (by omega)
set_option maxHeartbeats 4000000 in
theorem sX12_isNext_79 {r23 : (Int32 × Int32 × Int32 × Sg × Lg) → Option (Int32 × Sg × Lg)} {v1 : Int32} {v3 : Int32} {sg : Sg} {lg : Lg} (hI : IM sg lg) (v1l : 0 ≤ v1.toInt) (v1h : v1.toInt ≤ 11) (v3l : 0 ≤ v3.toInt) (v3h : v3.toInt ≤ 11) (hr23 : ∀ (v1' : Int32) (v2' : Int32) (v3' : Int32), 0 ≤ v1'.toInt → v1'.toInt ≤ 11 → 0 ≤ v2'.toInt → v2'.toInt ≤ 1 → 0 ≤ v3'.toInt → v3'.toInt ≤ 12 → v3.toInt < v3'.toInt → Ok (PUM sg lg 0 1) (r23 (v1', v2', v3', sg, lg))) : Ok (PUM sg lg 0 1) (fX12_isNext_79 r23 v1 v3 sg lg) := by
  unfold fX12_isNext_79
  have k1 : (0 : Int32).toInt = 0 := by decide
  exact sX12_isNext_80 hI (by omega) (by omega) (by omega) (by omega) (by omega) (by omega) hr23
set_option maxHeartbeats 4000000 in
theorem sX12_isNext_75 {r23 : (Int32 × Int32 × Int32 × Sg × Lg) → Option (Int32 × Sg × Lg)} {v1 : Int32} {v3 : Int32} {sg : Sg} {lg : Lg} (hI : IM sg lg) (v1l : 0 ≤ v1.toInt) (v1h : v1.toInt ≤ 11) (v3l : 0 ≤ v3.toInt) (v3h : v3.toInt ≤ 11) (hr23 : ∀ (v1' : Int32) (v2' : Int32) (v3' : Int32), 0 ≤ v1'.toInt → v1'.toInt ≤ 11 → 0 ≤ v2'.toInt → v2'.toInt ≤ 1 → 0 ≤ v3'.toInt → v3'.toInt ≤ 12 → v3.toInt < v3'.toInt → Ok (PUM sg lg 0 1) (r23 (v1', v2', v3', sg, lg))) : Ok (PUM sg lg 0 1) (fX12_isNext_75 r23 v1 v3 sg lg) := by
  unfold fX12_isNext_75
  have k1 : (1 : Int32).toInt = 1 := by decide
  exact sX12_isNext_80 hI (by omega) (by omega) (by omega) (by omega) (by omega) (by omega) hr23
set_option maxHeartbeats 4000000 in
theorem sX12_isNext_23 {r23 : (Int32 × Int32 × Int32 × Sg × Lg) → Option (Int32 × Sg × Lg)} {v1 : Int32} {v2 : Int32} {v3 : Int32} {sg : Sg} {lg : Lg} (hI : IM sg lg) (v1l : 0 ≤ v1.toInt) (v1h : v1.toInt ≤ 11) (v2l : 0 ≤ v2.toInt) (v2h : v2.toInt ≤ 1) (v3l : 0 ≤ v3.toInt) (v3h : v3.toInt ≤ 12) (hr23 : ∀ (v1' : Int32) (v2' : Int32) (v3' : Int32), 0 ≤ v1'.toInt → v1'.toInt ≤ 11 → 0 ≤ v2'.toInt → v2'.toInt ≤ 1 → 0 ≤ v3'.toInt → v3'.toInt ≤ 12 → v3.toInt < v3'.toInt → Ok (PUM sg lg 0 1) (r23 (v1', v2', v3', sg, lg))) : Ok (PUM sg lg 0 1) (fX12_isNext_23 r23 v1 v2 v3 sg lg) := by
  unfold fX12_isNext_23
  refine bnd3_puM (sX12_hens  hI) (fun y1 qy1 zy1 => ?_)
  refine ok_ite (fun c1 => ?_) (fun c1 => ?_)
  · replace c1 := i_le.mp c1
    refine ok_gz (by omega) (by omega) ?_
    exact ok_some (mkPUM (by omega) (by omega))
  · replace c1 := i_nle.mp c1
    refine ok_ite (fun c2 => ?_) (fun c2 => ?_)
    · have k3 : (0 : Int32).toInt = 0 := by decide
      replace c2 := i_eq.mp c2
      exact sX12_isNext_79 hI (by omega) (by omega) (by omega) (by omega) hr23
    · have k4 : (0 : Int32).toInt = 0 := by decide
      replace c2 := i_ne.mp c2
      refine bnd3_pxM (sX12_counts (v1 := v3) hI) (fun y8 qy8 zy8 xy8 => ?_)
      replace xy8 : y8.toInt = 0 ∨ (0 ≤ v3.toInt ∧ v3.toInt ≤ 11) := xy8
      refine ok_ite (fun c5 => ?_) (fun c5 => ?_)
      · replace c5 := i_eq.mp c5
        exact sX12_isNext_75 hI (by omega) (by omega) (by omega) (by omega) hr23
      · replace c5 := i_ne.mp c5
        refine ok_gin (by omega) (by omega) ?_
        refine ok_ite (fun c6 => ?_) (fun c6 => ?_)
        · replace c6 := i_le.mp c6
          exact sX12_isNext_75 hI (by omega) (by omega) (by omega) (by omega) hr23
        · replace c6 := i_nle.mp c6
          refine bnd3_puM (sX12_isOne (v1 := v3) (v2 := v1) hI (by omega) (by omega) (by omega) (by omega)) (fun y15 qy15 zy15 => ?_)
          refine ok_ite (fun c7 => ?_) (fun c7 => ?_)
          · replace c7 := i_eq.mp c7
            have k8 : (12 : Int32).toInt = 12 := by decide
            have f9 := mul_l (a := (12 : Int32)) (b := v3) 12 (by decide) (by omega) (by omega)
            have f10 := add_i (a := ((12 : Int32) * v3)) (b := v1) (by omega) (by omega)
            refine ok_lt (fun x20 ex20 => ?_)
            replace ex20 := congrArg Int32.toInt ex20
            refine ok_gin (by omega) (by omega) ?_
            refine ok_ite (fun c11 => ?_) (fun c11 => ?_)
            · have f12 := rdM8 hI (j := x20.toNatClampNeg)
              replace c11 := i_eq.mp c11
              exact sX12_isNext_75 hI (by omega) (by omega) (by omega) (by omega) hr23
            · have f13 := rdM8 hI (j := x20.toNatClampNeg)
              replace c11 := i_ne.mp c11
              exact sX12_isNext_79 hI (by omega) (by omega) (by omega) (by omega) hr23
          · replace c7 := i_ne.mp c7
            exact sX12_isNext_75 hI (by omega) (by omega) (by omega) (by omega) hr23
set_option maxHeartbeats 4000000 in
theorem sLX12_isNext_23 {v1 : Int32} {v2 : Int32} {v3 : Int32} {sg : Sg} {lg : Lg} (hI : IM sg lg) (v1l : 0 ≤ v1.toInt) (v1h : v1.toInt ≤ 11) (v2l : 0 ≤ v2.toInt) (v2h : v2.toInt ≤ 1) (v3l : 0 ≤ v3.toInt) (v3h : v3.toInt ≤ 12) : Ok (PUM sg lg 0 1) (LX12_isNext_23 (v1, v2, v3, sg, lg)) := by
  unfold LX12_isNext_23
  refine ok_loop (I := fun (z : Int32 × Int32 × Int32 × Sg × Lg) => z.2.2.2.1 = sg ∧ z.2.2.2.2 = lg ∧ 0 ≤ z.1.toInt ∧ z.1.toInt ≤ 11 ∧ 0 ≤ z.2.1.toInt ∧ z.2.1.toInt ≤ 1 ∧ 0 ≤ z.2.2.1.toInt ∧ z.2.2.1.toInt ≤ 12) (m := fun (z : Int32 × Int32 × Int32 × Sg × Lg) => (13 - z.2.2.1.toInt).toNat) _ ?_ ?_ _ ?_
  · intro z hz
    obtain ⟨h0, h1, h2, h3, h4, h5, h6, h7⟩ := hz
    show (13 - z.2.2.1.toInt).toNat < 10000
    omega
  · intro rec z hz hrec
    obtain ⟨v1, v2, v3, sg1, lg1⟩ := z
    replace hz : sg1 = sg ∧ lg1 = lg ∧ 0 ≤ v1.toInt ∧ v1.toInt ≤ 11 ∧ 0 ≤ v2.toInt ∧ v2.toInt ≤ 1 ∧ 0 ≤ v3.toInt ∧ v3.toInt ≤ 12 := hz
    obtain ⟨h0, h1, h2, h3, h4, h5, h6, h7⟩ := hz
    subst sg1
    subst lg1
    show Ok (PUM sg lg 0 1) (fX12_isNext_23 rec v1 v2 v3 sg lg)
    exact sX12_isNext_23 hI h2 h3 h4 h5 h6 h7 (fun v1' v2' v3' g0 g1 g2 g3 g4 g5 g6 => hrec (v1', v2', v3', sg, lg) ⟨rfl, rfl, g0, g1, g2, g3, g4, g5⟩ (show (13 - v3'.toInt).toNat < (13 - v3.toInt).toNat by omega))
  · exact ⟨rfl, rfl, v1l, v1h, v2l, v2h, v3l, v3h⟩
set_option maxHeartbeats 4000000 in
theorem sX12_isNext {v1 : Int32} {sg : Sg} {lg : Lg} (hI : IM sg lg) (v1l : 0 ≤ v1.toInt) (v1h : v1.toInt ≤ 11) : Ok (PUM sg lg 0 1) (fX12_isNext v1 sg lg) := by
  unfold fX12_isNext
  refine bnd3_pxM (sX12_counts (v1 := v1) hI) (fun y1 qy1 zy1 xy1 => ?_)
  replace xy1 : y1.toInt = 0 ∨ (0 ≤ v1.toInt ∧ v1.toInt ≤ 11) := xy1
  refine ok_ite (fun c1 => ?_) (fun c1 => ?_)
  · have k2 : (0 : Int32).toInt = 0 := by decide
    replace c1 := i_eq.mp c1
    exact ok_some (mkPUM (by omega) (by omega))
  · have k3 : (0 : Int32).toInt = 0 := by decide
    replace c1 := i_ne.mp c1
    refine ok_gin (by omega) (by omega) ?_
    refine ok_ite (fun c4 => ?_) (fun c4 => ?_)
    · replace c4 := i_lt.mp c4
      have k5 : (1 : Int32).toInt = 1 := by decide
      exact sLX12_isNext_23 hI (by omega) (by omega) (by omega) (by omega) (by omega) (by omega)
    · replace c4 := i_nlt.mp c4
      exact ok_some (mkPUM (by omega) (by omega))
