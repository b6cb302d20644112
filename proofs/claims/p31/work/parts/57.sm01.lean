set_option maxHeartbeats 4000000 in
theorem sX12_hens {sg : Sg} {lg : Lg} (hI : IM sg lg) : Ok (PUM sg lg 0 12) (fX12_hens sg lg) := by
  unfold fX12_hens
  have k1 : (0 : Int32).toInt = 0 := by decide
  refine ok_gin (by omega) (by omega) ?_
  have f2 : 0 ≤ (sg 1 (0 : Int32).toNatClampNeg).toInt ∧ (sg 1 (0 : Int32).toNatClampNeg).toInt ≤ 12 := rdM1_0 hI
  exact ok_some (mkPUM (by omega) (by omega))
set_option maxHeartbeats 4000000 in
theorem sX12_isIn {v0 : Int64} {v2 : Int64} {v4 : Int64} {sg : Sg} {lg : Lg} (hI : IM sg lg) : Ok (PXM sg lg 0 1 (fun (y : Int) => y = 0 ∨ (v2.toInt ≤ v0.toInt ∧ v0.toInt ≤ v4.toInt))) (fX12_isIn v0 v2 v4 sg lg) := by
  unfold fX12_isIn
  refine ok_ite (fun c1 => ?_) (fun c1 => ?_)
  · replace c1 := j_lt.mp c1
    have k2 : (0 : Int32).toInt = 0 := by decide
    exact ok_some (mkPXM (by omega) (by omega) (show (0 : Int32).toInt = 0 ∨ (v2.toInt ≤ v0.toInt ∧ v0.toInt ≤ v4.toInt) by omega))
  · replace c1 := j_nlt.mp c1
    refine ok_ite (fun c3 => ?_) (fun c3 => ?_)
    · replace c3 := j_lt.mp c3
      have k4 : (0 : Int32).toInt = 0 := by decide
      exact ok_some (mkPXM (by omega) (by omega) (show (0 : Int32).toInt = 0 ∨ (v2.toInt ≤ v0.toInt ∧ v0.toInt ≤ v4.toInt) by omega))
    · replace c3 := j_nlt.mp c3
      have k5 : (1 : Int32).toInt = 1 := by decide
      exact ok_some (mkPXM (by omega) (by omega) (show (1 : Int32).toInt = 0 ∨ (v2.toInt ≤ v0.toInt ∧ v0.toInt ≤ v4.toInt) by omega))
set_option maxHeartbeats 4000000 in
theorem sX12_isHen {v1 : Int32} {sg : Sg} {lg : Lg} (hI : IM sg lg) : Ok (PXM sg lg 0 1 (fun (y : Int) => y = 0 ∨ (0 ≤ v1.toInt ∧ v1.toInt ≤ 11))) (fX12_isHen v1 sg lg) := by
  unfold fX12_isHen
  refine bnd3_puM (sX12_hens  hI) (fun y1 qy1 zy1 => ?_)
  have f1 : v1.toInt64.toInt = v1.toInt := Int32.toInt_toInt64 _
  have k2 : (0 : Int64).toInt = 0 := by decide
  have k3 : (1 : Int32).toInt = 1 := by decide
  have f4 := sub_i (a := y1) (b := (1 : Int32)) (by omega) (by omega)
  have f5 : (y1 - (1 : Int32)).toInt64.toInt = (y1 - (1 : Int32)).toInt := Int32.toInt_toInt64 _
  refine bnd3_pxM (sX12_isIn (v0 := v1.toInt64) (v2 := (0 : Int64)) (v4 := (y1 - (1 : Int32)).toInt64) hI) (fun y5 qy5 zy5 xy5 => ?_)
  replace xy5 : y5.toInt = 0 ∨ ((0 : Int64).toInt ≤ v1.toInt64.toInt ∧ v1.toInt64.toInt ≤ (y1 - (1 : Int32)).toInt64.toInt) := xy5
  refine ok_gz (by omega) (by omega) ?_
  exact ok_some (mkPXM (by omega) (by omega) (show y5.toInt = 0 ∨ (0 ≤ v1.toInt ∧ v1.toInt ≤ 11) by omega))
set_option maxHeartbeats 4000000 in
theorem sX12_asks {v1 : Int32} {sg : Sg} {lg : Lg} (hI : IM sg lg) (v1l : 0 ≤ v1.toInt) (v1h : v1.toInt ≤ 11) : Ok (PUM sg lg (-2147483648) 2147483647) (fX12_asks v1 sg lg) := by
  unfold fX12_asks
  have k1 : (13 : Int32).toInt = 13 := by decide
  have f2 := add_i (a := (13 : Int32)) (b := v1) (by omega) (by omega)
  refine ok_lt (fun x1 ex1 => ?_)
  replace ex1 := congrArg Int32.toInt ex1
  refine ok_gin (by omega) (by omega) ?_
  exact ok_some (mkPUM (lo32 _) (hi32 _))
set_option maxHeartbeats 4000000 in
theorem sX12_kind {v1 : Int32} {sg : Sg} {lg : Lg} (hI : IM sg lg) (v1l : 0 ≤ v1.toInt) (v1h : v1.toInt ≤ 11) : Ok (PUM sg lg (-2147483648) 2147483647) (fX12_kind v1 sg lg) := by
  unfold fX12_kind
  have k1 : (1 : Int32).toInt = 1 := by decide
  have f2 := add_i (a := (1 : Int32)) (b := v1) (by omega) (by omega)
  refine ok_lt (fun x1 ex1 => ?_)
  replace ex1 := congrArg Int32.toInt ex1
  refine ok_gin (by omega) (by omega) ?_
  exact ok_some (mkPUM (lo32 _) (hi32 _))
set_option maxHeartbeats 4000000 in
theorem sX12_width {v1 : Int32} {sg : Sg} {lg : Lg} (hI : IM sg lg) (v1l : 0 ≤ v1.toInt) (v1h : v1.toInt ≤ 11) : Ok (PUM sg lg (-2147483648) 2147483647) (fX12_width v1 sg lg) := by
  unfold fX12_width
  have k1 : (37 : Int32).toInt = 37 := by decide
  have f2 := add_i (a := (37 : Int32)) (b := v1) (by omega) (by omega)
  refine ok_lt (fun x1 ex1 => ?_)
  replace ex1 := congrArg Int32.toInt ex1
  refine ok_gin (by omega) (by omega) ?_
  exact ok_some (mkPUM (lo32 _) (hi32 _))
set_option maxHeartbeats 4000000 in
theorem sX12_peckOf {v1 : Int32} {v2 : Int32} {sg : Sg} {lg : Lg} (hI : IM sg lg) (v1l : 0 ≤ v1.toInt) (v1h : v1.toInt ≤ 11) (v2l : 0 ≤ v2.toInt) (v2h : v2.toInt ≤ 11) : Ok (PUM sg lg (-2147483648) 2147483647) (fX12_peckOf v1 v2 sg lg) := by
  unfold fX12_peckOf
  have k1 : (49 : Int32).toInt = 49 := by decide
  have k2 : (12 : Int32).toInt = 12 := by decide
  have f3 := mul_l (a := (12 : Int32)) (b := v1) 12 (by decide) (by omega) (by omega)
  have f4 := add_i (a := (49 : Int32)) (b := ((12 : Int32) * v1)) (by omega) (by omega)
  have f5 := add_i (a := ((49 : Int32) + ((12 : Int32) * v1))) (b := v2) (by omega) (by omega)
  refine ok_lt (fun x1 ex1 => ?_)
  replace ex1 := congrArg Int32.toInt ex1
  refine ok_gin (by omega) (by omega) ?_
  exact ok_some (mkPUM (lo32 _) (hi32 _))
set_option maxHeartbeats 4000000 in
theorem sX12_counts {v1 : Int32} {sg : Sg} {lg : Lg} (hI : IM sg lg) : Ok (PXM sg lg 0 1 (fun (y : Int) => y = 0 ∨ (0 ≤ v1.toInt ∧ v1.toInt ≤ 11))) (fX12_counts v1 sg lg) := by
  unfold fX12_counts
  refine bnd3_pxM (sX12_isHen (v1 := v1) hI) (fun y1 qy1 zy1 xy1 => ?_)
  replace xy1 : y1.toInt = 0 ∨ (0 ≤ v1.toInt ∧ v1.toInt ≤ 11) := xy1
  refine ok_ite (fun c1 => ?_) (fun c1 => ?_)
  · have k2 : (0 : Int32).toInt = 0 := by decide
    replace c1 := i_eq.mp c1
    exact ok_some (mkPXM (by omega) (by omega) (show (0 : Int32).toInt = 0 ∨ (0 ≤ v1.toInt ∧ v1.toInt ≤ 11) by omega))
  · have k3 : (0 : Int32).toInt = 0 := by decide
    replace c1 := i_ne.mp c1
    refine bnd3_puM (sX12_kind (v1 := v1) hI (by omega) (by omega)) (fun y6 qy6 zy6 => ?_)
    refine ok_ite (fun c4 => ?_) (fun c4 => ?_)
    · have k5 : (4 : Int32).toInt = 4 := by decide
      replace c4 := i_eq.mp c4
      have k6 : (25 : Int32).toInt = 25 := by decide
      have f7 := add_i (a := (25 : Int32)) (b := v1) (by omega) (by omega)
      refine ok_lt (fun x11 ex11 => ?_)
      replace ex11 := congrArg Int32.toInt ex11
      refine ok_gin (by omega) (by omega) ?_
      refine ok_ite (fun c8 => ?_) (fun c8 => ?_)
      · have k9 : (1 : Int32).toInt = 1 := by decide
        replace c8 := i_eq.mp c8
        exact ok_some (mkPXM (by omega) (by omega) (show (1 : Int32).toInt = 0 ∨ (0 ≤ v1.toInt ∧ v1.toInt ≤ 11) by omega))
      · have k10 : (1 : Int32).toInt = 1 := by decide
        replace c8 := i_ne.mp c8
        exact ok_some (mkPXM (by omega) (by omega) (show (0 : Int32).toInt = 0 ∨ (0 ≤ v1.toInt ∧ v1.toInt ≤ 11) by omega))
    · have k11 : (4 : Int32).toInt = 4 := by decide
      replace c4 := i_ne.mp c4
      have k12 : (1 : Int32).toInt = 1 := by decide
      exact ok_some (mkPXM (by omega) (by omega) (show (1 : Int32).toInt = 0 ∨ (0 ≤ v1.toInt ∧ v1.toInt ≤ 11) by omega))
set_option maxHeartbeats 4000000 in
theorem sX12_counting_28 {r4 : (Int32 × Int32 × Sg × Lg) → Option (Int32 × Sg × Lg)} {v2 : Int32} {w0 : Int32} {w1 : Int32} {sg : Sg} {lg : Lg} (hI : IM sg lg) (v2l : 0 ≤ v2.toInt) (v2h : v2.toInt ≤ 11) (w0l : 0 ≤ w0.toInt) (w0h : w0.toInt ≤ 2048) (w1l : 0 ≤ w1.toInt) (w1h : w1.toInt ≤ 4095) (hr4 : ∀ (v1' : Int32) (v2' : Int32), 0 ≤ v1'.toInt → v1'.toInt ≤ 4095 → 0 ≤ v2'.toInt → v2'.toInt ≤ 12 → v2.toInt < v2'.toInt → Ok (PUM sg lg 0 4095) (r4 (v1', v2', sg, lg))) : Ok (PUM sg lg 0 4095) (fX12_counting_28 r4 v2 w0 w1 sg lg) := by
  unfold fX12_counting_28
  have f1 := or_i (a := w1) (b := w0) 12 4096 (by decide) (by decide) (by omega) (by omega) (by omega) (by omega)
  refine ok_lt (fun x1 ex1 => ?_)
  replace ex1 := congrArg Int32.toInt ex1
  refine ok_lt (fun x2 ex2 => ?_)
  replace ex2 : x2.toInt = v2.toInt + 1 := by rw [ex2]; exact add_c 1 (by decide) (by omega) (by omega)
  exact hr4 x1 x2 (by omega) (by omega) (by omega) (by omega) (by omega)
set_option maxHeartbeats 4000000 in
theorem sX12_counting_4 {r4 : (Int32 × Int32 × Sg × Lg) → Option (Int32 × Sg × Lg)} {v1 : Int32} {v2 : Int32} {sg : Sg} {lg : Lg} (hI : IM sg lg) (v1l : 0 ≤ v1.toInt) (v1h : v1.toInt ≤ 4095) (v2l : 0 ≤ v2.toInt) (v2h : v2.toInt ≤ 12) (hr4 : ∀ (v1' : Int32) (v2' : Int32), 0 ≤ v1'.toInt → v1'.toInt ≤ 4095 → 0 ≤ v2'.toInt → v2'.toInt ≤ 12 → v2.toInt < v2'.toInt → Ok (PUM sg lg 0 4095) (r4 (v1', v2', sg, lg))) : Ok (PUM sg lg 0 4095) (fX12_counting_4 r4 v1 v2 sg lg) := by
  unfold fX12_counting_4
  refine bnd3_puM (sX12_hens  hI) (fun y1 qy1 zy1 => ?_)
  refine ok_ite (fun c1 => ?_) (fun c1 => ?_)
  · replace c1 := i_le.mp c1
    exact ok_some (mkPUM (by omega) (by omega))
  · replace c1 := i_nle.mp c1
    refine bnd3_pxM (sX12_counts (v1 := v2) hI) (fun y6 qy6 zy6 xy6 => ?_)
    replace xy6 : y6.toInt = 0 ∨ (0 ≤ v2.toInt ∧ v2.toInt ≤ 11) := xy6
    refine ok_ite (fun c2 => ?_) (fun c2 => ?_)
    · have k3 : (0 : Int32).toInt = 0 := by decide
      replace c2 := i_eq.mp c2
      exact sX12_counting_28 hI (by omega) (by omega) (by omega) (by omega) (by omega) (by omega) hr4
    · have k4 : (0 : Int32).toInt = 0 := by decide
      replace c2 := i_ne.mp c2
      have f5 := shl_i (v := v2) 11 2048 (by decide) (by decide) (by omega) (by omega)
      exact sX12_counting_28 hI (by omega) (by omega) (by omega) (by omega) (by omega) (by omega) hr4
set_option maxHeartbeats 4000000 in
theorem sLX12_counting_4 {v1 : Int32} {v2 : Int32} {sg : Sg} {lg : Lg} (hI : IM sg lg) (v1l : 0 ≤ v1.toInt) (v1h : v1.toInt ≤ 4095) (v2l : 0 ≤ v2.toInt) (v2h : v2.toInt ≤ 12) : Ok (PUM sg lg 0 4095) (LX12_counting_4 (v1, v2, sg, lg)) := by
  unfold LX12_counting_4
  refine ok_loop (I := fun (z : Int32 × Int32 × Sg × Lg) => z.2.2.1 = sg ∧ z.2.2.2 = lg ∧ 0 ≤ z.1.toInt ∧ z.1.toInt ≤ 4095 ∧ 0 ≤ z.2.1.toInt ∧ z.2.1.toInt ≤ 12) (m := fun (z : Int32 × Int32 × Sg × Lg) => (13 - z.2.1.toInt).toNat) _ ?_ ?_ _ ?_
  · intro z hz
    obtain ⟨h0, h1, h2, h3, h4, h5⟩ := hz
    show (13 - z.2.1.toInt).toNat < 10000
    omega
  · intro rec z hz hrec
    obtain ⟨v1, v2, sg1, lg1⟩ := z
    replace hz : sg1 = sg ∧ lg1 = lg ∧ 0 ≤ v1.toInt ∧ v1.toInt ≤ 4095 ∧ 0 ≤ v2.toInt ∧ v2.toInt ≤ 12 := hz
    obtain ⟨h0, h1, h2, h3, h4, h5⟩ := hz
    subst sg1
    subst lg1
    show Ok (PUM sg lg 0 4095) (fX12_counting_4 rec v1 v2 sg lg)
    exact sX12_counting_4 hI h2 h3 h4 h5 (fun v1' v2' g0 g1 g2 g3 g4 => hrec (v1', v2', sg, lg) ⟨rfl, rfl, g0, g1, g2, g3⟩ (show (13 - v2'.toInt).toNat < (13 - v2.toInt).toNat by omega))
  · exact ⟨rfl, rfl, v1l, v1h, v2l, v2h⟩
set_option maxHeartbeats 4000000 in
theorem sX12_counting {sg : Sg} {lg : Lg} (hI : IM sg lg) : Ok (PUM sg lg 0 4095) (fX12_counting sg lg) := by
  unfold fX12_counting
  have k1 : (0 : Int32).toInt = 0 := by decide
  exact sLX12_counting_4 hI (by omega) (by omega) (by omega) (by omega)
theorem asks_is {v1 : Int32} {sg : Sg} {lg : Lg} (h0 : 0 ≤ v1.toInt) (h1 : v1.toInt ≤ 11) : fX12_asks v1 sg lg = some (sg 1 ((13 : Int32) + v1).toNatClampNeg, sg, lg) := by
  have k : (13 : Int32).toInt = 13 := by decide
  have f := add_i (a := (13 : Int32)) (b := v1) (by omega) (by omega)
  unfold fX12_asks
  exact gin_in (vin_i (by omega) (by omega))
set_option maxHeartbeats 4000000 in
theorem sX12_askedBy {v1 : Int32} {sg : Sg} {lg : Lg} (hI : IM sg lg) (v1l : 0 ≤ v1.toInt) (v1h : v1.toInt ≤ 11) : Ok (PUM sg lg (-1) 11) (fX12_askedBy v1 sg lg) := by
  unfold fX12_askedBy
  refine bnd3_puM (sX12_kind (v1 := v1) hI (by omega) (by omega)) (fun y1 qy1 zy1 => ?_)
  have f1 : y1.toInt64.toInt = y1.toInt := Int32.toInt_toInt64 _
  have k2 : (1 : Int64).toInt = 1 := by decide
  have k3 : (3 : Int64).toInt = 3 := by decide
  refine bnd3_pxM (sX12_isIn (v0 := y1.toInt64) (v2 := (1 : Int64)) (v4 := (3 : Int64)) hI) (fun y5 qy5 zy5 xy5 => ?_)
  replace xy5 : y5.toInt = 0 ∨ ((1 : Int64).toInt ≤ y1.toInt64.toInt ∧ y1.toInt64.toInt ≤ (3 : Int64).toInt) := xy5
  refine ok_ite (fun c4 => ?_) (fun c4 => ?_)
  · have k5 : (0 : Int32).toInt = 0 := by decide
    replace c4 := i_eq.mp c4
    have k6 : (-1 : Int32).toInt = -1 := by decide
    exact ok_some (mkPUM (by omega) (by omega))
  · have k7 : (0 : Int32).toInt = 0 := by decide
    replace c4 := i_ne.mp c4
    refine bnd3_pxM (sX12_counts (v1 := v1) hI) (fun y10 qy10 zy10 xy10 => ?_)
    replace xy10 : y10.toInt = 0 ∨ (0 ≤ v1.toInt ∧ v1.toInt ≤ 11) := xy10
    refine ok_ite (fun c8 => ?_) (fun c8 => ?_)
    · replace c8 := i_eq.mp c8
      have k9 : (-1 : Int32).toInt = -1 := by decide
      exact ok_some (mkPUM (by omega) (by omega))
    · replace c8 := i_ne.mp c8
      obtain ⟨y15, h15⟩ : ∃ a, fX12_asks v1 sg lg = some (a, sg, lg) := ⟨_, asks_is v1l v1h⟩
      refine bnd3_of h15 ?_
      refine bnd3_pxM (sX12_counts (v1 := y15) hI) (fun y19 qy19 zy19 xy19 => ?_)
      replace xy19 : y19.toInt = 0 ∨ (0 ≤ y15.toInt ∧ y15.toInt ≤ 11) := xy19
      refine ok_ite (fun c10 => ?_) (fun c10 => ?_)
      · replace c10 := i_eq.mp c10
        have k11 : (-1 : Int32).toInt = -1 := by decide
        exact ok_some (mkPUM (by omega) (by omega))
      · replace c10 := i_ne.mp c10
        refine bnd3_of h15 ?_
        exact ok_some (mkPUM (by omega) (by omega))
set_option maxHeartbeats 4000000 in
theorem sX12_may_29 {v1 : Int32} {v3 : Int32} {v4 : Int32} {w0 : Int32} {sg : Sg} {lg : Lg} (hI : IM sg lg) (v1l : 0 ≤ v1.toInt) (v1h : v1.toInt ≤ 11) (v3l : 0 ≤ v3.toInt) (v3h : v3.toInt ≤ 12) (v4l : 0 ≤ v4.toInt) (v4h : v4.toInt ≤ 11) (w0l : 0 ≤ w0.toInt) (w0h : w0.toInt ≤ 1) : Ok (PUM sg lg 0 1) (fX12_may_29 v1 v3 v4 w0 sg lg) := by
  unfold fX12_may_29
  refine bnd3_puM (sX12_kind (v1 := v1) hI (by omega) (by omega)) (fun y1 qy1 zy1 => ?_)
  refine ok_ite (fun c1 => ?_) (fun c1 => ?_)
  · have k2 : (1 : Int32).toInt = 1 := by decide
    replace c1 := i_eq.mp c1
    refine ok_gz (by omega) (by omega) ?_
    exact ok_some (mkPUM (by omega) (by omega))
  · have k3 : (1 : Int32).toInt = 1 := by decide
    replace c1 := i_ne.mp c1
    refine bnd3_puM (sX12_kind (v1 := v1) hI (by omega) (by omega)) (fun y6 qy6 zy6 => ?_)
    refine ok_ite (fun c4 => ?_) (fun c4 => ?_)
    · have k5 : (2 : Int32).toInt = 2 := by decide
      replace c4 := i_eq.mp c4
      refine ok_ite (fun c6 => ?_) (fun c6 => ?_)
      · have k7 : (0 : Int32).toInt = 0 := by decide
        replace c6 := i_eq.mp c6
        exact ok_some (mkPUM (by omega) (by omega))
      · have k8 : (0 : Int32).toInt = 0 := by decide
        replace c6 := i_ne.mp c6
        exact ok_some (mkPUM (by omega) (by omega))
    · have k9 : (2 : Int32).toInt = 2 := by decide
      replace c4 := i_ne.mp c4
      refine ok_ite (fun c10 => ?_) (fun c10 => ?_)
      · replace c10 := i_eq.mp c10
        exact ok_some (mkPUM (by omega) (by omega))
      · replace c10 := i_ne.mp c10
        have k11 : (0 : Int32).toInt = 0 := by decide
        exact ok_some (mkPUM (by omega) (by omega))
set_option maxHeartbeats 4000000 in
theorem sX12_may {v1 : Int32} {v2 : Int32} {v3 : Int32} {sg : Sg} {lg : Lg} (hI : IM sg lg) (v1l : 0 ≤ v1.toInt) (v1h : v1.toInt ≤ 11) (v2l : 0 ≤ v2.toInt) (v2h : v2.toInt ≤ 4095) (v3l : 0 ≤ v3.toInt) (v3h : v3.toInt ≤ 12) : Ok (PUM sg lg 0 1) (fX12_may v1 v2 v3 sg lg) := by
  unfold fX12_may
  refine bnd3_puM (sX12_askedBy (v1 := v1) hI (by omega) (by omega)) (fun y1 qy1 zy1 => ?_)
  refine ok_ite (fun c1 => ?_) (fun c1 => ?_)
  · have k2 : (0 : Int32).toInt = 0 := by decide
    replace c1 := i_le.mp c1
    refine ok_ite (fun c3 => ?_) (fun c3 => ?_)
    · have f4 := shr_i (a := v2) (v := (y1 &&& 31)) (by omega)
      have k5 : (1 : Int32).toInt = 1 := by decide
      have f6 := and_l (a := (v2 >>> (y1 &&& 31))) (b := (1 : Int32)) (by omega)
      have f7 := and_r (a := (v2 >>> (y1 &&& 31))) (b := (1 : Int32)) (by omega)
      replace c3 := i_eq.mp c3
      exact sX12_may_29 hI (by omega) (by omega) (by omega) (by omega) (by omega) (by omega) (by omega) (by omega)
    · have f8 := shr_i (a := v2) (v := (y1 &&& 31)) (by omega)
      have k9 : (1 : Int32).toInt = 1 := by decide
      have f10 := and_l (a := (v2 >>> (y1 &&& 31))) (b := (1 : Int32)) (by omega)
      have f11 := and_r (a := (v2 >>> (y1 &&& 31))) (b := (1 : Int32)) (by omega)
      replace c3 := i_ne.mp c3
      exact sX12_may_29 hI (by omega) (by omega) (by omega) (by omega) (by omega) (by omega) (by omega) (by omega)
  · have k12 : (0 : Int32).toInt = 0 := by decide
    replace c1 := i_nle.mp c1
    have k13 : (1 : Int32).toInt = 1 := by decide
    exact ok_some (mkPUM (by omega) (by omega))
set_option maxHeartbeats 4000000 in
theorem sX12_mayCome_40 {v1 : Int32} {v2 : Int32} {v3 : Int32} {sg : Sg} {lg : Lg} (hI : IM sg lg) (v1l : 0 ≤ v1.toInt) (v1h : v1.toInt ≤ 11) (v2l : 0 ≤ v2.toInt) (v2h : v2.toInt ≤ 4095) (v3l : 0 ≤ v3.toInt) (v3h : v3.toInt ≤ 12) : Ok (PUM sg lg 0 1) (fX12_mayCome_40 v1 v2 v3 sg lg) := by
  unfold fX12_mayCome_40
  refine ok_ite (fun c1 => ?_) (fun c1 => ?_)
  · have f2 := rdM0_7 hI
    have k3 : (0 : Int32).toInt = 0 := by decide
    replace c1 := i_eq.mp c1
    have k4 : (1 : Int32).toInt = 1 := by decide
    exact ok_some (mkPUM (by omega) (by omega))
  · have f5 := rdM0_7 hI
    have k6 : (0 : Int32).toInt = 0 := by decide
    replace c1 := i_ne.mp c1
    refine bnd3_puM (sX12_may (v1 := v1) (v2 := v2) (v3 := v3) hI (by omega) (by omega) (by omega) (by omega) (by omega) (by omega)) (fun y2 qy2 zy2 => ?_)
    refine ok_ite (fun c7 => ?_) (fun c7 => ?_)
    · replace c7 := i_eq.mp c7
      exact ok_some (mkPUM (by omega) (by omega))
    · replace c7 := i_ne.mp c7
      have k8 : (1 : Int32).toInt = 1 := by decide
      exact ok_some (mkPUM (by omega) (by omega))
set_option maxHeartbeats 4000000 in
theorem sX12_mayCome {v1 : Int32} {v2 : Int32} {v3 : Int32} {sg : Sg} {lg : Lg} (hI : IM sg lg) (v1l : 0 ≤ v1.toInt) (v1h : v1.toInt ≤ 11) (v2l : 0 ≤ v2.toInt) (v2h : v2.toInt ≤ 4095) (v3l : 0 ≤ v3.toInt) (v3h : v3.toInt ≤ 12) : Ok (PUM sg lg 0 1) (fX12_mayCome v1 v2 v3 sg lg) := by
  unfold fX12_mayCome
  refine ok_ite (fun c1 => ?_) (fun c1 => ?_)
  · have f2 := shr_i (a := v2) (v := (v1 &&& 31)) (by omega)
    have k3 : (1 : Int32).toInt = 1 := by decide
    have f4 := and_l (a := (v2 >>> (v1 &&& 31))) (b := (1 : Int32)) (by omega)
    have f5 := and_r (a := (v2 >>> (v1 &&& 31))) (b := (1 : Int32)) (by omega)
    replace c1 := i_eq.mp c1
    have k6 : (0 : Int32).toInt = 0 := by decide
    exact ok_some (mkPUM (by omega) (by omega))
  · have f7 := shr_i (a := v2) (v := (v1 &&& 31)) (by omega)
    have k8 : (1 : Int32).toInt = 1 := by decide
    have f9 := and_l (a := (v2 >>> (v1 &&& 31))) (b := (1 : Int32)) (by omega)
    have f10 := and_r (a := (v2 >>> (v1 &&& 31))) (b := (1 : Int32)) (by omega)
    replace c1 := i_ne.mp c1
    refine bnd3_pxM (sX12_counts (v1 := v1) hI) (fun y2 qy2 zy2 xy2 => ?_)
    replace xy2 : y2.toInt = 0 ∨ (0 ≤ v1.toInt ∧ v1.toInt ≤ 11) := xy2
    refine ok_ite (fun c11 => ?_) (fun c11 => ?_)
    · have k12 : (0 : Int32).toInt = 0 := by decide
      replace c11 := i_eq.mp c11
      exact ok_some (mkPUM (by omega) (by omega))
    · have k13 : (0 : Int32).toInt = 0 := by decide
      replace c11 := i_ne.mp c11
      refine ok_ite (fun c14 => ?_) (fun c14 => ?_)
      · replace c14 := i_eq.mp c14
        refine ok_ite (fun c15 => ?_) (fun c15 => ?_)
        · have f16 := shr_i (a := v2) (v := ((sg 0 8) &&& 31)) (by omega)
          have f17 := and_l (a := (v2 >>> ((sg 0 8) &&& 31))) (b := (1 : Int32)) (by omega)
          have f18 := and_r (a := (v2 >>> ((sg 0 8) &&& 31))) (b := (1 : Int32)) (by omega)
          replace c15 := i_eq.mp c15
          exact ok_some (mkPUM (by omega) (by omega))
        · have f19 := shr_i (a := v2) (v := ((sg 0 8) &&& 31)) (by omega)
          have f20 := and_l (a := (v2 >>> ((sg 0 8) &&& 31))) (b := (1 : Int32)) (by omega)
          have f21 := and_r (a := (v2 >>> ((sg 0 8) &&& 31))) (b := (1 : Int32)) (by omega)
          replace c15 := i_ne.mp c15
          exact sX12_mayCome_40 hI (by omega) (by omega) (by omega) (by omega) (by omega) (by omega)
      · replace c14 := i_ne.mp c14
        exact sX12_mayCome_40 hI (by omega) (by omega) (by omega) (by omega) (by omega) (by omega)
set_option maxHeartbeats 4000000 in
theorem sX12_cost_35 {r5 : (Int32 × Int32 × Int64 × Int32 × Sg × Lg) → Option (Int64 × Sg × Lg)} {v1 : Int32} {v2 : Int32} {v5 : Int32} {w0 : Int64} {w1 : Int64} {sg : Sg} {lg : Lg} (hI : IM sg lg) (v1l : 0 ≤ v1.toInt) (v1h : v1.toInt ≤ 11) (v2l : 0 ≤ v2.toInt) (v2h : v2.toInt ≤ 4095) (v5l : 0 ≤ v5.toInt) (v5h : v5.toInt ≤ 11) (hr5 : ∀ (v1' : Int32) (v2' : Int32) (v3' : Int64) (v5' : Int32), 0 ≤ v1'.toInt → v1'.toInt ≤ 11 → 0 ≤ v2'.toInt → v2'.toInt ≤ 4095 → 0 ≤ v5'.toInt → v5'.toInt ≤ 12 → v5.toInt < v5'.toInt → Ok (PUlM sg lg) (r5 (v1', v2', v3', v5', sg, lg))) : Ok (PUlM sg lg) (fX12_cost_35 r5 v1 v2 v5 w0 w1 sg lg) := by
  unfold fX12_cost_35
  refine ok_lt (fun x1 ex1 => ?_)
  refine ok_lt (fun x2 ex2 => ?_)
  replace ex2 : x2.toInt = v5.toInt + 1 := by rw [ex2]; exact add_c 1 (by decide) (by omega) (by omega)
  exact hr5 v1 v2 x1 x2 (by omega) (by omega) (by omega) (by omega) (by omega) (by omega) (by omega)
set_option maxHeartbeats 4000000 in
theorem sX12_cost_5 {r5 : (Int32 × Int32 × Int64 × Int32 × Sg × Lg) → Option (Int64 × Sg × Lg)} {v1 : Int32} {v2 : Int32} {v3 : Int64} {v5 : Int32} {sg : Sg} {lg : Lg} (hI : IM sg lg) (v1l : 0 ≤ v1.toInt) (v1h : v1.toInt ≤ 11) (v2l : 0 ≤ v2.toInt) (v2h : v2.toInt ≤ 4095) (v5l : 0 ≤ v5.toInt) (v5h : v5.toInt ≤ 12) (hr5 : ∀ (v1' : Int32) (v2' : Int32) (v3' : Int64) (v5' : Int32), 0 ≤ v1'.toInt → v1'.toInt ≤ 11 → 0 ≤ v2'.toInt → v2'.toInt ≤ 4095 → 0 ≤ v5'.toInt → v5'.toInt ≤ 12 → v5.toInt < v5'.toInt → Ok (PUlM sg lg) (r5 (v1', v2', v3', v5', sg, lg))) : Ok (PUlM sg lg) (fX12_cost_5 r5 v1 v2 v3 v5 sg lg) := by
  unfold fX12_cost_5
  refine ok_ite (fun c1 => ?_) (fun c1 => ?_)
  · have k2 : (12 : Int32).toInt = 12 := by decide
    replace c1 := i_le.mp c1
    exact ok_some (mkPUlM)
  · have k3 : (12 : Int32).toInt = 12 := by decide
    replace c1 := i_nle.mp c1
    refine ok_ite (fun c4 => ?_) (fun c4 => ?_)
    · have f5 := shr_i (a := v2) (v := (v5 &&& 31)) (by omega)
      have k6 : (1 : Int32).toInt = 1 := by decide
      have f7 := and_l (a := (v2 >>> (v5 &&& 31))) (b := (1 : Int32)) (by omega)
      have f8 := and_r (a := (v2 >>> (v5 &&& 31))) (b := (1 : Int32)) (by omega)
      replace c4 := i_eq.mp c4
      refine bnd3_puM (sX12_peckOf (v1 := v1) (v2 := v5) hI (by omega) (by omega) (by omega) (by omega)) (fun y3 qy3 zy3 => ?_)
      exact sX12_cost_35 hI (by omega) (by omega) (by omega) (by omega) (by omega) (by omega) hr5
    · have f9 := shr_i (a := v2) (v := (v5 &&& 31)) (by omega)
      have k10 : (1 : Int32).toInt = 1 := by decide
      have f11 := and_l (a := (v2 >>> (v5 &&& 31))) (b := (1 : Int32)) (by omega)
      have f12 := and_r (a := (v2 >>> (v5 &&& 31))) (b := (1 : Int32)) (by omega)
      replace c4 := i_ne.mp c4
      exact sX12_cost_35 hI (by omega) (by omega) (by omega) (by omega) (by omega) (by omega) hr5
set_option maxHeartbeats 4000000 in
theorem sLX12_cost_5 {v1 : Int32} {v2 : Int32} {v3 : Int64} {v5 : Int32} {sg : Sg} {lg : Lg} (hI : IM sg lg) (v1l : 0 ≤ v1.toInt) (v1h : v1.toInt ≤ 11) (v2l : 0 ≤ v2.toInt) (v2h : v2.toInt ≤ 4095) (v5l : 0 ≤ v5.toInt) (v5h : v5.toInt ≤ 12) : Ok (PUlM sg lg) (LX12_cost_5 (v1, v2, v3, v5, sg, lg)) := by
  unfold LX12_cost_5
  refine ok_loop (I := fun (z : Int32 × Int32 × Int64 × Int32 × Sg × Lg) => z.2.2.2.2.1 = sg ∧ z.2.2.2.2.2 = lg ∧ 0 ≤ z.1.toInt ∧ z.1.toInt ≤ 11 ∧ 0 ≤ z.2.1.toInt ∧ z.2.1.toInt ≤ 4095 ∧ 0 ≤ z.2.2.2.1.toInt ∧ z.2.2.2.1.toInt ≤ 12) (m := fun (z : Int32 × Int32 × Int64 × Int32 × Sg × Lg) => (13 - z.2.2.2.1.toInt).toNat) _ ?_ ?_ _ ?_
  · intro z hz
    obtain ⟨h0, h1, h2, h3, h4, h5, h6, h7⟩ := hz
    show (13 - z.2.2.2.1.toInt).toNat < 10000
    omega
  · intro rec z hz hrec
    obtain ⟨v1, v2, v3, v5, sg1, lg1⟩ := z
    replace hz : sg1 = sg ∧ lg1 = lg ∧ 0 ≤ v1.toInt ∧ v1.toInt ≤ 11 ∧ 0 ≤ v2.toInt ∧ v2.toInt ≤ 4095 ∧ 0 ≤ v5.toInt ∧ v5.toInt ≤ 12 := hz
    obtain ⟨h0, h1, h2, h3, h4, h5, h6, h7⟩ := hz
    subst sg1
    subst lg1
    show Ok (PUlM sg lg) (fX12_cost_5 rec v1 v2 v3 v5 sg lg)
    exact sX12_cost_5 hI h2 h3 h4 h5 h6 h7 (fun v1' v2' v3' v5' g0 g1 g2 g3 g4 g5 g6 => hrec (v1', v2', v3', v5', sg, lg) ⟨rfl, rfl, g0, g1, g2, g3, g4, g5⟩ (show (13 - v5'.toInt).toNat < (13 - v5.toInt).toNat by omega))
  · exact ⟨rfl, rfl, v1l, v1h, v2l, v2h, v5l, v5h⟩
set_option maxHeartbeats 4000000 in
theorem sX12_cost {v1 : Int32} {v2 : Int32} {sg : Sg} {lg : Lg} (hI : IM sg lg) (v1l : 0 ≤ v1.toInt) (v1h : v1.toInt ≤ 11) (v2l : 0 ≤ v2.toInt) (v2h : v2.toInt ≤ 4095) : Ok (PUlM sg lg) (fX12_cost v1 v2 sg lg) := by
  unfold fX12_cost
  have k1 : (0 : Int32).toInt = 0 := by decide
  exact sLX12_cost_5 hI (by omega) (by omega) (by omega) (by omega) (by omega) (by omega)
set_option maxHeartbeats 4000000 in
theorem sX12_fillState_165 {s0 : Sg} {l0 : Lg} {r26 : (Int32 × Int32 × Int32 × Int32 × Sg × Lg) → Option (Sg × Lg)} {v1 : Int32} {v2 : Int32} {v3 : Int32} {v4 : Int32} {sg : Sg} {lg : Lg} (hS : StM MX12_fillState s0 l0 sg lg) (v1l : 0 ≤ v1.toInt) (v1h : v1.toInt ≤ 4095) (v2l : 0 ≤ v2.toInt) (v2h : v2.toInt ≤ 12) (v3l : 0 ≤ v3.toInt) (v3h : v3.toInt ≤ 53247) (v4l : 0 ≤ v4.toInt) (v4h : v4.toInt ≤ 11) (hr26 : ∀ (v1' : Int32) (v2' : Int32) (v3' : Int32) (v4' : Int32) (sg' : Sg) (lg' : Lg), StM MX12_fillState s0 l0 sg' lg' → 0 ≤ v1'.toInt → v1'.toInt ≤ 4095 → 0 ≤ v2'.toInt → v2'.toInt ≤ 12 → 0 ≤ v3'.toInt → v3'.toInt ≤ 53247 → 0 ≤ v4'.toInt → v4'.toInt ≤ 12 → v4.toInt < v4'.toInt → Ok (PVM MX12_fillState s0 l0) (r26 (v1', v2', v3', v4', sg', lg'))) : Ok (PVM MX12_fillState s0 l0) (fX12_fillState_165 r26 v1 v2 v3 v4 sg lg) := by
  unfold fX12_fillState_165
  refine ok_lt (fun x1 ex1 => ?_)
  replace ex1 : x1.toInt = v4.toInt + 1 := by rw [ex1]; exact add_c 1 (by decide) (by omega) (by omega)
  exact hr26 v1 v2 v3 x1 sg lg hS (by omega) (by omega) (by omega) (by omega) (by omega) (by omega) (by omega) (by omega) (by omega)
set_option maxHeartbeats 4000000 in
theorem sX12_fillState_163 {s0 : Sg} {l0 : Lg} {r26 : (Int32 × Int32 × Int32 × Int32 × Sg × Lg) → Option (Sg × Lg)} {v1 : Int32} {v2 : Int32} {v3 : Int32} {v4 : Int32} {w0 : Int64} {w1 : Int64} {w2 : Int32} {sg : Sg} {lg : Lg} (hS : StM MX12_fillState s0 l0 sg lg) (v1l : 0 ≤ v1.toInt) (v1h : v1.toInt ≤ 4095) (v2l : 0 ≤ v2.toInt) (v2h : v2.toInt ≤ 12) (v3l : 0 ≤ v3.toInt) (v3h : v3.toInt ≤ 53247) (v4l : 0 ≤ v4.toInt) (v4h : v4.toInt ≤ 11) (w2l : 0 ≤ w2.toInt) (w2h : w2.toInt ≤ 53247) (hr26 : ∀ (v1' : Int32) (v2' : Int32) (v3' : Int32) (v4' : Int32) (sg' : Sg) (lg' : Lg), StM MX12_fillState s0 l0 sg' lg' → 0 ≤ v1'.toInt → v1'.toInt ≤ 4095 → 0 ≤ v2'.toInt → v2'.toInt ≤ 12 → 0 ≤ v3'.toInt → v3'.toInt ≤ 53247 → 0 ≤ v4'.toInt → v4'.toInt ≤ 12 → v4.toInt < v4'.toInt → Ok (PVM MX12_fillState s0 l0) (r26 (v1', v2', v3', v4', sg', lg'))) : Ok (PVM MX12_fillState s0 l0) (fX12_fillState_163 r26 v1 v2 v3 v4 w0 w1 w2 sg lg) := by
  unfold fX12_fillState_163
  refine ok_lt (fun x1 ex1 => ?_)
  refine ok_gin (by omega) (by omega) ?_
  refine ok_lt (fun lg3 elg3 => ?_)
  have hS1 := upL_5 hS (by decide) elg3
  exact sX12_fillState_165 hS1 (by omega) (by omega) (by omega) (by omega) (by omega) (by omega) (by omega) (by omega) hr26
set_option maxHeartbeats 4000000 in
theorem sX12_fillState_162 {s0 : Sg} {l0 : Lg} {r26 : (Int32 × Int32 × Int32 × Int32 × Sg × Lg) → Option (Sg × Lg)} {v1 : Int32} {v2 : Int32} {v3 : Int32} {v4 : Int32} {w0 : Int64} {w1 : Int32} {sg : Sg} {lg : Lg} (hS : StM MX12_fillState s0 l0 sg lg) (v1l : 0 ≤ v1.toInt) (v1h : v1.toInt ≤ 4095) (v2l : 0 ≤ v2.toInt) (v2h : v2.toInt ≤ 12) (v3l : 0 ≤ v3.toInt) (v3h : v3.toInt ≤ 53247) (v4l : 0 ≤ v4.toInt) (v4h : v4.toInt ≤ 11) (w1l : 0 ≤ w1.toInt) (w1h : w1.toInt ≤ 53247) (hr26 : ∀ (v1' : Int32) (v2' : Int32) (v3' : Int32) (v4' : Int32) (sg' : Sg) (lg' : Lg), StM MX12_fillState s0 l0 sg' lg' → 0 ≤ v1'.toInt → v1'.toInt ≤ 4095 → 0 ≤ v2'.toInt → v2'.toInt ≤ 12 → 0 ≤ v3'.toInt → v3'.toInt ≤ 53247 → 0 ≤ v4'.toInt → v4'.toInt ≤ 12 → v4.toInt < v4'.toInt → Ok (PVM MX12_fillState s0 l0) (r26 (v1', v2', v3', v4', sg', lg'))) : Ok (PVM MX12_fillState s0 l0) (fX12_fillState_162 r26 v1 v2 v3 v4 w0 w1 sg lg) := by
  unfold fX12_fillState_162
  exact sX12_fillState_163 hS (by omega) (by omega) (by omega) (by omega) (by omega) (by omega) (by omega) (by omega) (by omega) (by omega) hr26
set_option maxHeartbeats 4000000 in
theorem sX12_fillState_124 {s0 : Sg} {l0 : Lg} {r26 : (Int32 × Int32 × Int32 × Int32 × Sg × Lg) → Option (Sg × Lg)} {v1 : Int32} {v2 : Int32} {v3 : Int32} {v4 : Int32} {v5 : Int32} {v6 : Int64} {sg : Sg} {lg : Lg} (hS : StM MX12_fillState s0 l0 sg lg) (v1l : 0 ≤ v1.toInt) (v1h : v1.toInt ≤ 4095) (v2l : 0 ≤ v2.toInt) (v2h : v2.toInt ≤ 12) (v3l : 0 ≤ v3.toInt) (v3h : v3.toInt ≤ 53247) (v4l : 0 ≤ v4.toInt) (v4h : v4.toInt ≤ 11) (v5l : 0 ≤ v5.toInt) (v5h : v5.toInt ≤ 53246) (hr26 : ∀ (v1' : Int32) (v2' : Int32) (v3' : Int32) (v4' : Int32) (sg' : Sg) (lg' : Lg), StM MX12_fillState s0 l0 sg' lg' → 0 ≤ v1'.toInt → v1'.toInt ≤ 4095 → 0 ≤ v2'.toInt → v2'.toInt ≤ 12 → 0 ≤ v3'.toInt → v3'.toInt ≤ 53247 → 0 ≤ v4'.toInt → v4'.toInt ≤ 12 → v4.toInt < v4'.toInt → Ok (PVM MX12_fillState s0 l0) (r26 (v1', v2', v3', v4', sg', lg'))) : Ok (PVM MX12_fillState s0 l0) (fX12_fillState_124 r26 v1 v2 v3 v4 v5 v6 sg lg) := by
  unfold fX12_fillState_124
  refine ok_gin (by omega) (by omega) ?_
  refine ok_ite (fun c1 => ?_) (fun c1 => ?_)
  · have k2 : (1000000000000000 : Int64).toInt = 1000000000000000 := by decide
    replace c1 := j_le.mp c1
    exact sX12_fillState_162 hS (by omega) (by omega) (by omega) (by omega) (by omega) (by omega) (by omega) (by omega) (by omega) (by omega) hr26
  · have k3 : (1000000000000000 : Int64).toInt = 1000000000000000 := by decide
    replace c1 := j_nle.mp c1
    refine ok_gin (by omega) (by omega) ?_
    refine ok_ite (fun c4 => ?_) (fun c4 => ?_)
    · replace c4 := j_eq.mp c4
      refine ok_gin (by omega) (by omega) ?_
      exact sX12_fillState_163 hS (by omega) (by omega) (by omega) (by omega) (by omega) (by omega) (by omega) (by omega) (by omega) (by omega) hr26
    · replace c4 := j_ne.mp c4
      exact sX12_fillState_162 hS (by omega) (by omega) (by omega) (by omega) (by omega) (by omega) (by omega) (by omega) (by omega) (by omega) hr26
set_option maxHeartbeats 4000000 in
theorem sX12_fillState_95 {s0 : Sg} {l0 : Lg} {r26 : (Int32 × Int32 × Int32 × Int32 × Sg × Lg) → Option (Sg × Lg)} {v1 : Int32} {v2 : Int32} {v3 : Int32} {v4 : Int32} {v5 : Int32} {w0 : Int64} {sg : Sg} {lg : Lg} (hS : StM MX12_fillState s0 l0 sg lg) (v1l : 0 ≤ v1.toInt) (v1h : v1.toInt ≤ 4095) (v2l : 0 ≤ v2.toInt) (v2h : v2.toInt ≤ 12) (v3l : 0 ≤ v3.toInt) (v3h : v3.toInt ≤ 53247) (v4l : 0 ≤ v4.toInt) (v4h : v4.toInt ≤ 11) (v5l : 0 ≤ v5.toInt) (v5h : v5.toInt ≤ 53246) (hr26 : ∀ (v1' : Int32) (v2' : Int32) (v3' : Int32) (v4' : Int32) (sg' : Sg) (lg' : Lg), StM MX12_fillState s0 l0 sg' lg' → 0 ≤ v1'.toInt → v1'.toInt ≤ 4095 → 0 ≤ v2'.toInt → v2'.toInt ≤ 12 → 0 ≤ v3'.toInt → v3'.toInt ≤ 53247 → 0 ≤ v4'.toInt → v4'.toInt ≤ 12 → v4.toInt < v4'.toInt → Ok (PVM MX12_fillState s0 l0) (r26 (v1', v2', v3', v4', sg', lg'))) : Ok (PVM MX12_fillState s0 l0) (fX12_fillState_95 r26 v1 v2 v3 v4 v5 w0 sg lg) := by
  unfold fX12_fillState_95
  refine ok_gin (by omega) (by omega) ?_
  refine ok_ite (fun c1 => ?_) (fun c1 => ?_)
  · replace c1 := j_le.mp c1
    exact sX12_fillState_124 hS (by omega) (by omega) (by omega) (by omega) (by omega) (by omega) (by omega) (by omega) (by omega) (by omega) hr26
  · replace c1 := j_nle.mp c1
    refine ok_gin (by omega) (by omega) ?_
    refine ok_lt (fun lg4 elg4 => ?_)
    have hS2 := upL_4 hS (by decide) elg4
    refine ok_gin (by omega) (by omega) ?_
    refine ok_lt (fun lg6 elg6 => ?_)
    have hS3 := upL_5 hS2 (by decide) elg6
    exact sX12_fillState_124 hS3 (by omega) (by omega) (by omega) (by omega) (by omega) (by omega) (by omega) (by omega) (by omega) (by omega) hr26
set_option maxHeartbeats 4000000 in
theorem sX12_fillState_26 {s0 : Sg} {l0 : Lg} {r26 : (Int32 × Int32 × Int32 × Int32 × Sg × Lg) → Option (Sg × Lg)} {v1 : Int32} {v2 : Int32} {v3 : Int32} {v4 : Int32} {sg : Sg} {lg : Lg} (hS : StM MX12_fillState s0 l0 sg lg) (v1l : 0 ≤ v1.toInt) (v1h : v1.toInt ≤ 4095) (v2l : 0 ≤ v2.toInt) (v2h : v2.toInt ≤ 12) (v3l : 0 ≤ v3.toInt) (v3h : v3.toInt ≤ 53247) (v4l : 0 ≤ v4.toInt) (v4h : v4.toInt ≤ 12) (hr26 : ∀ (v1' : Int32) (v2' : Int32) (v3' : Int32) (v4' : Int32) (sg' : Sg) (lg' : Lg), StM MX12_fillState s0 l0 sg' lg' → 0 ≤ v1'.toInt → v1'.toInt ≤ 4095 → 0 ≤ v2'.toInt → v2'.toInt ≤ 12 → 0 ≤ v3'.toInt → v3'.toInt ≤ 53247 → 0 ≤ v4'.toInt → v4'.toInt ≤ 12 → v4.toInt < v4'.toInt → Ok (PVM MX12_fillState s0 l0) (r26 (v1', v2', v3', v4', sg', lg'))) : Ok (PVM MX12_fillState s0 l0) (fX12_fillState_26 r26 v1 v2 v3 v4 sg lg) := by
  unfold fX12_fillState_26
  refine bnd3_puM (sX12_hens  hS.1) (fun y1 qy1 zy1 => ?_)
  refine ok_ite (fun c1 => ?_) (fun c1 => ?_)
  · replace c1 := i_le.mp c1
    exact ok_some (mkPVM hS)
  · replace c1 := i_nle.mp c1
    refine bnd3_puM (sX12_mayCome (v1 := v4) (v2 := v1) (v3 := v2) hS.1 (by omega) (by omega) (by omega) (by omega) (by omega) (by omega)) (fun y6 qy6 zy6 => ?_)
    refine ok_ite (fun c2 => ?_) (fun c2 => ?_)
    · have k3 : (0 : Int32).toInt = 0 := by decide
      replace c2 := i_eq.mp c2
      exact sX12_fillState_165 hS (by omega) (by omega) (by omega) (by omega) (by omega) (by omega) (by omega) (by omega) hr26
    · have k4 : (0 : Int32).toInt = 0 := by decide
      replace c2 := i_ne.mp c2
      have k5 : (13 : Int32).toInt = 13 := by decide
      have f6 := shl_i (v := v4) 11 2048 (by decide) (by decide) (by omega) (by omega)
      have f7 := or_i (a := v1) (b := ((1 : Int32) <<< (v4 &&& 31))) 12 4096 (by decide) (by decide) (by omega) (by omega) (by omega) (by omega)
      have f8 := mul_l (a := (13 : Int32)) (b := (v1 ||| ((1 : Int32) <<< (v4 &&& 31)))) 13 (by decide) (by omega) (by omega)
      have f9 := add_i (a := ((13 : Int32) * (v1 ||| ((1 : Int32) <<< (v4 &&& 31))))) (b := v4) (by omega) (by omega)
      refine ok_lt (fun x11 ex11 => ?_)
      replace ex11 := congrArg Int32.toInt ex11
      refine ok_gin (by omega) (by omega) ?_
      refine ok_ite (fun c10 => ?_) (fun c10 => ?_)
      · have k11 : (1000000000000000 : Int64).toInt = 1000000000000000 := by decide
        replace c10 := j_lt.mp c10
        refine bnd3_pulM (sX12_cost (v1 := v4) (v2 := v1) hS.1 (by omega) (by omega) (by omega) (by omega)) (fun y14 => ?_)
        refine ok_gin (by omega) (by omega) ?_
        exact sX12_fillState_95 hS (by omega) (by omega) (by omega) (by omega) (by omega) (by omega) (by omega) (by omega) (by omega) (by omega) hr26
      · have k12 : (1000000000000000 : Int64).toInt = 1000000000000000 := by decide
        replace c10 := j_nlt.mp c10
        exact sX12_fillState_95 hS (by omega) (by omega) (by omega) (by omega) (by omega) (by omega) (by omega) (by omega) (by omega) (by omega) hr26
set_option maxHeartbeats 4000000 in
theorem sLX12_fillState_26 {s0 : Sg} {l0 : Lg} {v1 : Int32} {v2 : Int32} {v3 : Int32} {v4 : Int32} {sg : Sg} {lg : Lg} (hS : StM MX12_fillState s0 l0 sg lg) (v1l : 0 ≤ v1.toInt) (v1h : v1.toInt ≤ 4095) (v2l : 0 ≤ v2.toInt) (v2h : v2.toInt ≤ 12) (v3l : 0 ≤ v3.toInt) (v3h : v3.toInt ≤ 53247) (v4l : 0 ≤ v4.toInt) (v4h : v4.toInt ≤ 12) : Ok (PVM MX12_fillState s0 l0) (LX12_fillState_26 (v1, v2, v3, v4, sg, lg)) := by
  unfold LX12_fillState_26
  refine ok_loop (I := fun (z : Int32 × Int32 × Int32 × Int32 × Sg × Lg) => StM MX12_fillState s0 l0 z.2.2.2.2.1 z.2.2.2.2.2 ∧ 0 ≤ z.1.toInt ∧ z.1.toInt ≤ 4095 ∧ 0 ≤ z.2.1.toInt ∧ z.2.1.toInt ≤ 12 ∧ 0 ≤ z.2.2.1.toInt ∧ z.2.2.1.toInt ≤ 53247 ∧ 0 ≤ z.2.2.2.1.toInt ∧ z.2.2.2.1.toInt ≤ 12) (m := fun (z : Int32 × Int32 × Int32 × Int32 × Sg × Lg) => (13 - z.2.2.2.1.toInt).toNat) _ ?_ ?_ _ ?_
  · intro z hz
    obtain ⟨h0, h1, h2, h3, h4, h5, h6, h7, h8⟩ := hz
    show (13 - z.2.2.2.1.toInt).toNat < 10000
    omega
  · intro rec z hz hrec
    obtain ⟨v1, v2, v3, v4, sg, lg⟩ := z
    replace hz : StM MX12_fillState s0 l0 sg lg ∧ 0 ≤ v1.toInt ∧ v1.toInt ≤ 4095 ∧ 0 ≤ v2.toInt ∧ v2.toInt ≤ 12 ∧ 0 ≤ v3.toInt ∧ v3.toInt ≤ 53247 ∧ 0 ≤ v4.toInt ∧ v4.toInt ≤ 12 := hz
    obtain ⟨h0, h1, h2, h3, h4, h5, h6, h7, h8⟩ := hz
    show Ok (PVM MX12_fillState s0 l0) (fX12_fillState_26 rec v1 v2 v3 v4 sg lg)
    exact sX12_fillState_26 h0 h1 h2 h3 h4 h5 h6 h7 h8 (fun v1' v2' v3' v4' sg' lg' g0 g1 g2 g3 g4 g5 g6 g7 g8 g9 => hrec (v1', v2', v3', v4', sg', lg') ⟨g0, g1, g2, g3, g4, g5, g6, g7, g8⟩ (show (13 - v4'.toInt).toNat < (13 - v4.toInt).toNat by omega))
  · exact ⟨hS, v1l, v1h, v2l, v2h, v3l, v3h, v4l, v4h⟩
set_option maxHeartbeats 4000000 in
theorem sX12_fillState {v1 : Int32} {v2 : Int32} {sg : Sg} {lg : Lg} (hI : IM sg lg) (v1l : 0 ≤ v1.toInt) (v1h : v1.toInt ≤ 4095) (v2l : 0 ≤ v2.toInt) (v2h : v2.toInt ≤ 12) : Ok (PVM MX12_fillState sg lg) (fX12_fillState v1 v2 sg lg) := by
  have hS : StM MX12_fillState sg lg sg lg := StM.rf hI
  unfold fX12_fillState
  have k1 : (13 : Int32).toInt = 13 := by decide
  have f2 := mul_l (a := (13 : Int32)) (b := v1) 13 (by decide) (by omega) (by omega)
  have f3 := add_i (a := ((13 : Int32) * v1)) (b := v2) (by omega) (by omega)
  refine ok_lt (fun x1 ex1 => ?_)
  replace ex1 := congrArg Int32.toInt ex1
  refine ok_gin (by omega) (by omega) ?_
  refine ok_lt (fun lg3 elg3 => ?_)
  have hS4 := upL_4 hS (by decide) elg3
  refine ok_gin (by omega) (by omega) ?_
  refine ok_lt (fun lg5 elg5 => ?_)
  have hS5 := upL_5 hS4 (by decide) elg5
  have k6 : (0 : Int32).toInt = 0 := by decide
  exact sLX12_fillState_26 hS5 (by omega) (by omega) (by omega) (by omega) (by omega) (by omega) (by omega) (by omega)
set_option maxHeartbeats 4000000 in
theorem sX12_fill_150 {s0 : Sg} {l0 : Lg} {r25 : (Int32 × Int32 × Sg × Lg) → Option (Sg × Lg)} {v4 : Int32} {v5 : Int32} {sg : Sg} {lg : Lg} (hS : StM MX12_fill s0 l0 sg lg) (v4l : 0 ≤ v4.toInt) (v4h : v4.toInt ≤ 4095) (v5l : 0 ≤ v5.toInt) (v5h : v5.toInt ≤ 4095) (hr25 : ∀ (v4' : Int32) (v5' : Int32) (sg' : Sg) (lg' : Lg), StM MX12_fill s0 l0 sg' lg' → 0 ≤ v4'.toInt → v4'.toInt ≤ 4095 → (-1) ≤ v5'.toInt → v5'.toInt ≤ 4095 → v5'.toInt < v5.toInt → Ok (PVM MX12_fill s0 l0) (r25 (v4', v5', sg', lg'))) : Ok (PVM MX12_fill s0 l0) (fX12_fill_150 r25 v4 v5 sg lg) := by
  unfold fX12_fill_150
  refine ok_lt (fun x1 ex1 => ?_)
  replace ex1 : x1.toInt = v5.toInt + (-1) := by rw [ex1]; exact add_c (-1) (by decide) (by omega) (by omega)
  exact hr25 v4 x1 sg lg hS (by omega) (by omega) (by omega) (by omega) (by omega)
set_option maxHeartbeats 4000000 in
theorem sX12_fill_144 {s0 : Sg} {l0 : Lg} {r25 : (Int32 × Int32 × Sg × Lg) → Option (Sg × Lg)} {r43 : (Int32 × Int32 × Int32 × Sg × Lg) → Option (Sg × Lg)} {v4 : Int32} {v5 : Int32} {v6 : Int32} {sg : Sg} {lg : Lg} (hS : StM MX12_fill s0 l0 sg lg) (v4l : 0 ≤ v4.toInt) (v4h : v4.toInt ≤ 4095) (v5l : 0 ≤ v5.toInt) (v5h : v5.toInt ≤ 4095) (v6l : 0 ≤ v6.toInt) (v6h : v6.toInt ≤ 12) (hr25 : ∀ (v4' : Int32) (v5' : Int32) (sg' : Sg) (lg' : Lg), StM MX12_fill s0 l0 sg' lg' → 0 ≤ v4'.toInt → v4'.toInt ≤ 4095 → (-1) ≤ v5'.toInt → v5'.toInt ≤ 4095 → v5'.toInt < v5.toInt → Ok (PVM MX12_fill s0 l0) (r25 (v4', v5', sg', lg'))) (hr43 : ∀ (v4' : Int32) (v5' : Int32) (v6' : Int32) (sg' : Sg) (lg' : Lg), StM MX12_fill s0 l0 sg' lg' → 0 ≤ v4'.toInt → v4'.toInt ≤ 4095 → 0 ≤ v5'.toInt → v5'.toInt ≤ 4095 → 0 ≤ v6'.toInt → v6'.toInt ≤ 13 → (∀ (v4'' : Int32) (v5'' : Int32) (sg'' : Sg) (lg'' : Lg), StM MX12_fill s0 l0 sg'' lg'' → 0 ≤ v4''.toInt → v4''.toInt ≤ 4095 → (-1) ≤ v5''.toInt → v5''.toInt ≤ 4095 → v5''.toInt < v5'.toInt → Ok (PVM MX12_fill s0 l0) (r25 (v4'', v5'', sg'', lg''))) → v6.toInt < v6'.toInt → Ok (PVM MX12_fill s0 l0) (r43 (v4', v5', v6', sg', lg'))) : Ok (PVM MX12_fill s0 l0) (fX12_fill_144 r25 r43 v4 v5 v6 sg lg) := by
  unfold fX12_fill_144
  refine ok_lt (fun x1 ex1 => ?_)
  replace ex1 : x1.toInt = v6.toInt + 1 := by rw [ex1]; exact add_c 1 (by decide) (by omega) (by omega)
  exact hr43 v4 v5 x1 sg lg hS (by omega) (by omega) (by omega) (by omega) (by omega) (by omega) hr25 (by omega)
set_option maxHeartbeats 4000000 in
theorem sX12_fill_131 {s0 : Sg} {l0 : Lg} {r25 : (Int32 × Int32 × Sg × Lg) → Option (Sg × Lg)} {r43 : (Int32 × Int32 × Int32 × Sg × Lg) → Option (Sg × Lg)} {v4 : Int32} {v5 : Int32} {v6 : Int32} {v7 : Int32} {sg : Sg} {lg : Lg} (hS : StM MX12_fill s0 l0 sg lg) (v4l : 0 ≤ v4.toInt) (v4h : v4.toInt ≤ 4095) (v5l : 0 ≤ v5.toInt) (v5h : v5.toInt ≤ 4095) (v6l : 0 ≤ v6.toInt) (v6h : v6.toInt ≤ 12) (v7l : 0 ≤ v7.toInt) (v7h : v7.toInt ≤ 1) (hr25 : ∀ (v4' : Int32) (v5' : Int32) (sg' : Sg) (lg' : Lg), StM MX12_fill s0 l0 sg' lg' → 0 ≤ v4'.toInt → v4'.toInt ≤ 4095 → (-1) ≤ v5'.toInt → v5'.toInt ≤ 4095 → v5'.toInt < v5.toInt → Ok (PVM MX12_fill s0 l0) (r25 (v4', v5', sg', lg'))) (hr43 : ∀ (v4' : Int32) (v5' : Int32) (v6' : Int32) (sg' : Sg) (lg' : Lg), StM MX12_fill s0 l0 sg' lg' → 0 ≤ v4'.toInt → v4'.toInt ≤ 4095 → 0 ≤ v5'.toInt → v5'.toInt ≤ 4095 → 0 ≤ v6'.toInt → v6'.toInt ≤ 13 → (∀ (v4'' : Int32) (v5'' : Int32) (sg'' : Sg) (lg'' : Lg), StM MX12_fill s0 l0 sg'' lg'' → 0 ≤ v4''.toInt → v4''.toInt ≤ 4095 → (-1) ≤ v5''.toInt → v5''.toInt ≤ 4095 → v5''.toInt < v5'.toInt → Ok (PVM MX12_fill s0 l0) (r25 (v4'', v5'', sg'', lg''))) → v6.toInt < v6'.toInt → Ok (PVM MX12_fill s0 l0) (r43 (v4', v5', v6', sg', lg'))) : Ok (PVM MX12_fill s0 l0) (fX12_fill_131 r25 r43 v4 v5 v6 v7 sg lg) := by
  unfold fX12_fill_131
  refine ok_ite (fun c1 => ?_) (fun c1 => ?_)
  · have k2 : (0 : Int32).toInt = 0 := by decide
    replace c1 := i_eq.mp c1
    exact sX12_fill_144 hS (by omega) (by omega) (by omega) (by omega) (by omega) (by omega) hr25 hr43
  · have k3 : (0 : Int32).toInt = 0 := by decide
    replace c1 := i_ne.mp c1
    refine bnd2_pvM (sX12_fillState (v1 := v5) (v2 := v6) hS.1 (by omega) (by omega) (by omega) (by omega)) (fun sg2 lg3 hsg2 => ?_)
    have hS4 := hS.tr hsg2 (by decide)
    exact sX12_fill_144 hS4 (by omega) (by omega) (by omega) (by omega) (by omega) (by omega) hr25 hr43
set_option maxHeartbeats 4000000 in
theorem sX12_fill_86 {s0 : Sg} {l0 : Lg} {r25 : (Int32 × Int32 × Sg × Lg) → Option (Sg × Lg)} {r43 : (Int32 × Int32 × Int32 × Sg × Lg) → Option (Sg × Lg)} {v4 : Int32} {v5 : Int32} {v6 : Int32} {w0 : Int32} {sg : Sg} {lg : Lg} (hS : StM MX12_fill s0 l0 sg lg) (v4l : 0 ≤ v4.toInt) (v4h : v4.toInt ≤ 4095) (v5l : 0 ≤ v5.toInt) (v5h : v5.toInt ≤ 4095) (v6l : 0 ≤ v6.toInt) (v6h : v6.toInt ≤ 12) (w0l : 0 ≤ w0.toInt) (w0h : w0.toInt ≤ 1) (hr25 : ∀ (v4' : Int32) (v5' : Int32) (sg' : Sg) (lg' : Lg), StM MX12_fill s0 l0 sg' lg' → 0 ≤ v4'.toInt → v4'.toInt ≤ 4095 → (-1) ≤ v5'.toInt → v5'.toInt ≤ 4095 → v5'.toInt < v5.toInt → Ok (PVM MX12_fill s0 l0) (r25 (v4', v5', sg', lg'))) (hr43 : ∀ (v4' : Int32) (v5' : Int32) (v6' : Int32) (sg' : Sg) (lg' : Lg), StM MX12_fill s0 l0 sg' lg' → 0 ≤ v4'.toInt → v4'.toInt ≤ 4095 → 0 ≤ v5'.toInt → v5'.toInt ≤ 4095 → 0 ≤ v6'.toInt → v6'.toInt ≤ 13 → (∀ (v4'' : Int32) (v5'' : Int32) (sg'' : Sg) (lg'' : Lg), StM MX12_fill s0 l0 sg'' lg'' → 0 ≤ v4''.toInt → v4''.toInt ≤ 4095 → (-1) ≤ v5''.toInt → v5''.toInt ≤ 4095 → v5''.toInt < v5'.toInt → Ok (PVM MX12_fill s0 l0) (r25 (v4'', v5'', sg'', lg''))) → v6.toInt < v6'.toInt → Ok (PVM MX12_fill s0 l0) (r43 (v4', v5', v6', sg', lg'))) : Ok (PVM MX12_fill s0 l0) (fX12_fill_86 r25 r43 v4 v5 v6 w0 sg lg) := by
  unfold fX12_fill_86
  refine ok_ite (fun c1 => ?_) (fun c1 => ?_)
  · have k2 : (0 : Int32).toInt = 0 := by decide
    replace c1 := i_eq.mp c1
    exact sX12_fill_131 hS (by omega) (by omega) (by omega) (by omega) (by omega) (by omega) (by omega) (by omega) hr25 hr43
  · have k3 : (0 : Int32).toInt = 0 := by decide
    replace c1 := i_ne.mp c1
    refine ok_ite (fun c4 => ?_) (fun c4 => ?_)
    · replace c4 := i_eq.mp c4
      have k5 : (13 : Int32).toInt = 13 := by decide
      have f6 := mul_l (a := (13 : Int32)) (b := v5) 13 (by decide) (by omega) (by omega)
      have f7 := add_i (a := ((13 : Int32) * v5)) (b := v6) (by omega) (by omega)
      refine ok_gin (by omega) (by omega) ?_
      refine ok_lt (fun lg4 elg4 => ?_)
      have hS8 := upL_4 hS (by decide) elg4
      refine ok_gin (by omega) (by omega) ?_
      refine ok_lt (fun lg6 elg6 => ?_)
      have hS9 := upL_5 hS8 (by decide) elg6
      exact sX12_fill_144 hS9 (by omega) (by omega) (by omega) (by omega) (by omega) (by omega) hr25 hr43
    · replace c4 := i_ne.mp c4
      exact sX12_fill_131 hS (by omega) (by omega) (by omega) (by omega) (by omega) (by omega) (by omega) (by omega) hr25 hr43
set_option maxHeartbeats 4000000 in
theorem sX12_fill_43 {s0 : Sg} {l0 : Lg} {r25 : (Int32 × Int32 × Sg × Lg) → Option (Sg × Lg)} {r43 : (Int32 × Int32 × Int32 × Sg × Lg) → Option (Sg × Lg)} {v4 : Int32} {v5 : Int32} {v6 : Int32} {sg : Sg} {lg : Lg} (hS : StM MX12_fill s0 l0 sg lg) (v4l : 0 ≤ v4.toInt) (v4h : v4.toInt ≤ 4095) (v5l : 0 ≤ v5.toInt) (v5h : v5.toInt ≤ 4095) (v6l : 0 ≤ v6.toInt) (v6h : v6.toInt ≤ 13) (hr25 : ∀ (v4' : Int32) (v5' : Int32) (sg' : Sg) (lg' : Lg), StM MX12_fill s0 l0 sg' lg' → 0 ≤ v4'.toInt → v4'.toInt ≤ 4095 → (-1) ≤ v5'.toInt → v5'.toInt ≤ 4095 → v5'.toInt < v5.toInt → Ok (PVM MX12_fill s0 l0) (r25 (v4', v5', sg', lg'))) (hr43 : ∀ (v4' : Int32) (v5' : Int32) (v6' : Int32) (sg' : Sg) (lg' : Lg), StM MX12_fill s0 l0 sg' lg' → 0 ≤ v4'.toInt → v4'.toInt ≤ 4095 → 0 ≤ v5'.toInt → v5'.toInt ≤ 4095 → 0 ≤ v6'.toInt → v6'.toInt ≤ 13 → (∀ (v4'' : Int32) (v5'' : Int32) (sg'' : Sg) (lg'' : Lg), StM MX12_fill s0 l0 sg'' lg'' → 0 ≤ v4''.toInt → v4''.toInt ≤ 4095 → (-1) ≤ v5''.toInt → v5''.toInt ≤ 4095 → v5''.toInt < v5'.toInt → Ok (PVM MX12_fill s0 l0) (r25 (v4'', v5'', sg'', lg''))) → v6.toInt < v6'.toInt → Ok (PVM MX12_fill s0 l0) (r43 (v4', v5', v6', sg', lg'))) : Ok (PVM MX12_fill s0 l0) (fX12_fill_43 r25 r43 v4 v5 v6 sg lg) := by
  unfold fX12_fill_43
  refine ok_ite (fun c1 => ?_) (fun c1 => ?_)
  · have k2 : (12 : Int32).toInt = 12 := by decide
    replace c1 := i_lt.mp c1
    exact sX12_fill_150 hS (by omega) (by omega) (by omega) (by omega) hr25
  · have k3 : (12 : Int32).toInt = 12 := by decide
    replace c1 := i_nlt.mp c1
    refine ok_ite (fun c4 => ?_) (fun c4 => ?_)
    · replace c4 := i_eq.mp c4
      refine ok_ite (fun c5 => ?_) (fun c5 => ?_)
      · have k6 : (0 : Int32).toInt = 0 := by decide
        replace c5 := i_eq.mp c5
        have k7 : (1 : Int32).toInt = 1 := by decide
        exact sX12_fill_86 hS (by omega) (by omega) (by omega) (by omega) (by omega) (by omega) (by omega) (by omega) hr25 hr43
      · have k8 : (0 : Int32).toInt = 0 := by decide
        replace c5 := i_ne.mp c5
        exact sX12_fill_86 hS (by omega) (by omega) (by omega) (by omega) (by omega) (by omega) (by omega) (by omega) hr25 hr43
    · replace c4 := i_ne.mp c4
      refine ok_ite (fun c9 => ?_) (fun c9 => ?_)
      · have f10 := shr_i (a := v5) (v := (v6 &&& 31)) (by omega)
        have k11 : (1 : Int32).toInt = 1 := by decide
        have f12 := and_l (a := (v5 >>> (v6 &&& 31))) (b := (1 : Int32)) (by omega)
        have f13 := and_r (a := (v5 >>> (v6 &&& 31))) (b := (1 : Int32)) (by omega)
        replace c9 := i_eq.mp c9
        exact sX12_fill_86 hS (by omega) (by omega) (by omega) (by omega) (by omega) (by omega) (by omega) (by omega) hr25 hr43
      · have f14 := shr_i (a := v5) (v := (v6 &&& 31)) (by omega)
        have k15 : (1 : Int32).toInt = 1 := by decide
        have f16 := and_l (a := (v5 >>> (v6 &&& 31))) (b := (1 : Int32)) (by omega)
        have f17 := and_r (a := (v5 >>> (v6 &&& 31))) (b := (1 : Int32)) (by omega)
        replace c9 := i_ne.mp c9
        have k18 : (0 : Int32).toInt = 0 := by decide
        exact sX12_fill_86 hS (by omega) (by omega) (by omega) (by omega) (by omega) (by omega) (by omega) (by omega) hr25 hr43
set_option maxHeartbeats 4000000 in
theorem sLX12_fill_43 {s0 : Sg} {l0 : Lg} {r25 : (Int32 × Int32 × Sg × Lg) → Option (Sg × Lg)} {v4 : Int32} {v5 : Int32} {v6 : Int32} {sg : Sg} {lg : Lg} (hS : StM MX12_fill s0 l0 sg lg) (v4l : 0 ≤ v4.toInt) (v4h : v4.toInt ≤ 4095) (v5l : 0 ≤ v5.toInt) (v5h : v5.toInt ≤ 4095) (v6l : 0 ≤ v6.toInt) (v6h : v6.toInt ≤ 13) (hr25 : ∀ (v4' : Int32) (v5' : Int32) (sg' : Sg) (lg' : Lg), StM MX12_fill s0 l0 sg' lg' → 0 ≤ v4'.toInt → v4'.toInt ≤ 4095 → (-1) ≤ v5'.toInt → v5'.toInt ≤ 4095 → v5'.toInt < v5.toInt → Ok (PVM MX12_fill s0 l0) (r25 (v4', v5', sg', lg'))) : Ok (PVM MX12_fill s0 l0) (LX12_fill_43 r25 (v4, v5, v6, sg, lg)) := by
  unfold LX12_fill_43
  refine ok_loop (I := fun (z : Int32 × Int32 × Int32 × Sg × Lg) => StM MX12_fill s0 l0 z.2.2.2.1 z.2.2.2.2 ∧ 0 ≤ z.1.toInt ∧ z.1.toInt ≤ 4095 ∧ 0 ≤ z.2.1.toInt ∧ z.2.1.toInt ≤ 4095 ∧ 0 ≤ z.2.2.1.toInt ∧ z.2.2.1.toInt ≤ 13 ∧ (∀ (v4' : Int32) (v5' : Int32) (sg' : Sg) (lg' : Lg), StM MX12_fill s0 l0 sg' lg' → 0 ≤ v4'.toInt → v4'.toInt ≤ 4095 → (-1) ≤ v5'.toInt → v5'.toInt ≤ 4095 → v5'.toInt < z.2.1.toInt → Ok (PVM MX12_fill s0 l0) (r25 (v4', v5', sg', lg')))) (m := fun (z : Int32 × Int32 × Int32 × Sg × Lg) => (14 - z.2.2.1.toInt).toNat) _ ?_ ?_ _ ?_
  · intro z hz
    obtain ⟨h0, h1, h2, h3, h4, h5, h6, h7⟩ := hz
    show (14 - z.2.2.1.toInt).toNat < 10000
    omega
  · intro rec z hz hrec
    obtain ⟨v4, v5, v6, sg, lg⟩ := z
    replace hz : StM MX12_fill s0 l0 sg lg ∧ 0 ≤ v4.toInt ∧ v4.toInt ≤ 4095 ∧ 0 ≤ v5.toInt ∧ v5.toInt ≤ 4095 ∧ 0 ≤ v6.toInt ∧ v6.toInt ≤ 13 ∧ (∀ (v4' : Int32) (v5' : Int32) (sg' : Sg) (lg' : Lg), StM MX12_fill s0 l0 sg' lg' → 0 ≤ v4'.toInt → v4'.toInt ≤ 4095 → (-1) ≤ v5'.toInt → v5'.toInt ≤ 4095 → v5'.toInt < v5.toInt → Ok (PVM MX12_fill s0 l0) (r25 (v4', v5', sg', lg'))) := hz
    obtain ⟨h0, h1, h2, h3, h4, h5, h6, h7⟩ := hz
    show Ok (PVM MX12_fill s0 l0) (fX12_fill_43 r25 rec v4 v5 v6 sg lg)
    exact sX12_fill_43 h0 h1 h2 h3 h4 h5 h6 h7 (fun v4' v5' v6' sg' lg' g0 g1 g2 g3 g4 g5 g6 g7 g8 => hrec (v4', v5', v6', sg', lg') ⟨g0, g1, g2, g3, g4, g5, g6, g7⟩ (show (14 - v6'.toInt).toNat < (14 - v6.toInt).toNat by omega))
  · exact ⟨hS, v4l, v4h, v5l, v5h, v6l, v6h, hr25⟩
set_option maxHeartbeats 4000000 in
theorem sX12_fill_25 {s0 : Sg} {l0 : Lg} {r25 : (Int32 × Int32 × Sg × Lg) → Option (Sg × Lg)} {v4 : Int32} {v5 : Int32} {sg : Sg} {lg : Lg} (hS : StM MX12_fill s0 l0 sg lg) (v4l : 0 ≤ v4.toInt) (v4h : v4.toInt ≤ 4095) (v5l : (-1) ≤ v5.toInt) (v5h : v5.toInt ≤ 4095) (hr25 : ∀ (v4' : Int32) (v5' : Int32) (sg' : Sg) (lg' : Lg), StM MX12_fill s0 l0 sg' lg' → 0 ≤ v4'.toInt → v4'.toInt ≤ 4095 → (-1) ≤ v5'.toInt → v5'.toInt ≤ 4095 → v5'.toInt < v5.toInt → Ok (PVM MX12_fill s0 l0) (r25 (v4', v5', sg', lg'))) : Ok (PVM MX12_fill s0 l0) (fX12_fill_25 r25 v4 v5 sg lg) := by
  unfold fX12_fill_25
  refine ok_ite (fun c1 => ?_) (fun c1 => ?_)
  · have k2 : (0 : Int32).toInt = 0 := by decide
    replace c1 := i_lt.mp c1
    exact ok_some (mkPVM hS)
  · have k3 : (0 : Int32).toInt = 0 := by decide
    replace c1 := i_nlt.mp c1
    refine ok_ite (fun c4 => ?_) (fun c4 => ?_)
    · have f5 := and_l (a := v5) (b := v4) (by omega)
      have f6 := and_r (a := v5) (b := v4) (by omega)
      replace c4 := i_eq.mp c4
      exact sLX12_fill_43 hS (by omega) (by omega) (by omega) (by omega) (by omega) (by omega) hr25
    · have f7 := and_l (a := v5) (b := v4) (by omega)
      have f8 := and_r (a := v5) (b := v4) (by omega)
      replace c4 := i_ne.mp c4
      exact sX12_fill_150 hS (by omega) (by omega) (by omega) (by omega) hr25
set_option maxHeartbeats 4000000 in
theorem sLX12_fill_25 {s0 : Sg} {l0 : Lg} {v4 : Int32} {v5 : Int32} {sg : Sg} {lg : Lg} (hS : StM MX12_fill s0 l0 sg lg) (v4l : 0 ≤ v4.toInt) (v4h : v4.toInt ≤ 4095) (v5l : (-1) ≤ v5.toInt) (v5h : v5.toInt ≤ 4095) : Ok (PVM MX12_fill s0 l0) (LX12_fill_25 (v4, v5, sg, lg)) := by
  unfold LX12_fill_25
  refine ok_loop (I := fun (z : Int32 × Int32 × Sg × Lg) => StM MX12_fill s0 l0 z.2.2.1 z.2.2.2 ∧ 0 ≤ z.1.toInt ∧ z.1.toInt ≤ 4095 ∧ (-1) ≤ z.2.1.toInt ∧ z.2.1.toInt ≤ 4095) (m := fun (z : Int32 × Int32 × Sg × Lg) => (z.2.1.toInt - (-2)).toNat) _ ?_ ?_ _ ?_
  · intro z hz
    obtain ⟨h0, h1, h2, h3, h4⟩ := hz
    show (z.2.1.toInt - (-2)).toNat < 10000
    omega
  · intro rec z hz hrec
    obtain ⟨v4, v5, sg, lg⟩ := z
    replace hz : StM MX12_fill s0 l0 sg lg ∧ 0 ≤ v4.toInt ∧ v4.toInt ≤ 4095 ∧ (-1) ≤ v5.toInt ∧ v5.toInt ≤ 4095 := hz
    obtain ⟨h0, h1, h2, h3, h4⟩ := hz
    show Ok (PVM MX12_fill s0 l0) (fX12_fill_25 rec v4 v5 sg lg)
    exact sX12_fill_25 h0 h1 h2 h3 h4 (fun v4' v5' sg' lg' g0 g1 g2 g3 g4 g5 => hrec (v4', v5', sg', lg') ⟨g0, g1, g2, g3, g4⟩ (show (v5'.toInt - (-2)).toNat < (v5.toInt - (-2)).toNat by omega))
  · exact ⟨hS, v4l, v4h, v5l, v5h⟩
set_option maxHeartbeats 4000000 in
theorem sX12_fill {v1 : Int32} {v2 : Int32} {v3 : Int32} {sg : Sg} {lg : Lg} (hI : IM sg lg) (v1l : 0 ≤ v1.toInt) (v1h : v1.toInt ≤ 1) (v2l : (-1) ≤ v2.toInt) (v2h : v2.toInt ≤ 11) (v3l : (-1) ≤ v3.toInt) (v3h : v3.toInt ≤ 11) : Ok (PVM MX12_fill sg lg) (fX12_fill v1 v2 v3 sg lg) := by
  have hS : StM MX12_fill sg lg sg lg := StM.rf hI
  unfold fX12_fill
  refine ok_gz (by omega) (by omega) ?_
  refine ok_lt (fun sg2 esg2 => ?_)
  have hS1 := upM0_7 hS (by decide) esg2 (by omega) (by omega)
  have e2 : (sg2 0 7).toInt = v1.toInt := by rw [esg2]; rfl
  refine ok_lt (fun sg3 esg3 => ?_)
  have hS3 := upM0_8 hS1 (by decide) esg3
  have e4 : (sg3 0 7).toInt = (sg2 0 7).toInt := by rw [esg3]; rfl
  have e5 : (sg3 0 8).toInt = v2.toInt := by rw [esg3]; rfl
  refine ok_lt (fun sg4 esg4 => ?_)
  have hS6 := upM0_9 hS3 (by decide) esg4
  have e7 : (sg4 0 7).toInt = (sg3 0 7).toInt := by rw [esg4]; rfl
  have e8 : (sg4 0 8).toInt = (sg3 0 8).toInt := by rw [esg4]; rfl
  have e9 : (sg4 0 9).toInt = v3.toInt := by rw [esg4]; rfl
  refine bnd3_puM (sX12_counting  hS6.1) (fun y5 qy5 zy5 => ?_)
  exact sLX12_fill_25 hS6 (by omega) (by omega) (by omega) (by omega)
set_option maxHeartbeats 4000000 in
theorem sX12_begun {sg : Sg} {lg : Lg} (hI : IM sg lg) : Ok (PUM sg lg 12 12) (fX12_begun sg lg) := by
  unfold fX12_begun
  have k1 : (12 : Int32).toInt = 12 := by decide
  exact ok_some (mkPUM (by omega) (by omega))
set_option maxHeartbeats 4000000 in
theorem sX12_least {sg : Sg} {lg : Lg} (hI : IM sg lg) : Ok (PLM MX12_least sg lg) (fX12_least sg lg) := by
  have hS : StM MX12_least sg lg sg lg := StM.rf hI
  unfold fX12_least
  have k1 : (1 : Int32).toInt = 1 := by decide
  have k2 : (-1 : Int32).toInt = -1 := by decide
  refine bnd2_pvM (sX12_fill (v1 := (1 : Int32)) (v2 := (-1 : Int32)) (v3 := (-1 : Int32)) hS.1 (by omega) (by omega) (by omega) (by omega) (by omega) (by omega)) (fun sg1 lg2 hsg1 => ?_)
  have hS3 := hS.tr hsg1 (by decide)
  refine bnd3_puM (sX12_begun  hS3.1) (fun y4 qy4 zy4 => ?_)
  refine ok_gin (by omega) (by omega) ?_
  refine ok_ite (fun c4 => ?_) (fun c4 => ?_)
  · have k5 : (1000000000000000 : Int64).toInt = 1000000000000000 := by decide
    replace c4 := j_lt.mp c4
    refine bnd3_puM (sX12_begun  hS3.1) (fun y10 qy10 zy10 => ?_)
    refine ok_gin (by omega) (by omega) ?_
    exact ok_some (mkPLM hS3)
  · have k6 : (1000000000000000 : Int64).toInt = 1000000000000000 := by decide
    replace c4 := j_nlt.mp c4
    exact ok_some (mkPLM hS3)
set_option maxHeartbeats 4000000 in
theorem sX12_many {sg : Sg} {lg : Lg} (hI : IM sg lg) : Ok (PLM MX12_many sg lg) (fX12_many sg lg) := by
  have hS : StM MX12_many sg lg sg lg := StM.rf hI
  unfold fX12_many
  have k1 : (1 : Int32).toInt = 1 := by decide
  have k2 : (-1 : Int32).toInt = -1 := by decide
  refine bnd2_pvM (sX12_fill (v1 := (1 : Int32)) (v2 := (-1 : Int32)) (v3 := (-1 : Int32)) hS.1 (by omega) (by omega) (by omega) (by omega) (by omega) (by omega)) (fun sg1 lg2 hsg1 => ?_)
  have hS3 := hS.tr hsg1 (by decide)
  refine bnd3_puM (sX12_begun  hS3.1) (fun y4 qy4 zy4 => ?_)
  refine ok_gin (by omega) (by omega) ?_
  exact ok_some (mkPLM hS3)
set_option maxHeartbeats 4000000 in
theorem sX12_loose {sg : Sg} {lg : Lg} (hI : IM sg lg) : Ok (PLM MX12_loose sg lg) (fX12_loose sg lg) := by
  have hS : StM MX12_loose sg lg sg lg := StM.rf hI
  unfold fX12_loose
  have k1 : (0 : Int32).toInt = 0 := by decide
  have k2 : (-1 : Int32).toInt = -1 := by decide
  refine bnd2_pvM (sX12_fill (v1 := (0 : Int32)) (v2 := (-1 : Int32)) (v3 := (-1 : Int32)) hS.1 (by omega) (by omega) (by omega) (by omega) (by omega) (by omega)) (fun sg1 lg2 hsg1 => ?_)
  have hS3 := hS.tr hsg1 (by decide)
  refine bnd3_puM (sX12_begun  hS3.1) (fun y4 qy4 zy4 => ?_)
  refine ok_gin (by omega) (by omega) ?_
  exact ok_some (mkPLM hS3)
