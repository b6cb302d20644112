set_option maxHeartbeats 4000000 in
theorem sX12_isBest {v1 : Int32} {v2 : Int32} {v3 : Int32} {sg : Sg} {lg : Lg} (hI : IM sg lg) (v1l : 0 ≤ v1.toInt) (v1h : v1.toInt ≤ 11) (v2l : 0 ≤ v2.toInt) (v2h : v2.toInt ≤ 4095) (v3l : 0 ≤ v3.toInt) (v3h : v3.toInt ≤ 12) : Ok (PUM sg lg 0 1) (fX12_isBest v1 v2 v3 sg lg) := by
  unfold fX12_isBest
  have k1 : (13 : Int32).toInt = 13 := by decide
  have f2 := shl_i (v := v1) 11 2048 (by decide) (by decide) (by omega) (by omega)
  have f3 := or_i (a := v2) (b := ((1 : Int32) <<< (v1 &&& 31))) 12 4096 (by decide) (by decide) (by omega) (by omega) (by omega) (by omega)
  have f4 := mul_l (a := (13 : Int32)) (b := (v2 ||| ((1 : Int32) <<< (v1 &&& 31)))) 13 (by decide) (by omega) (by omega)
  have f5 := add_i (a := ((13 : Int32) * (v2 ||| ((1 : Int32) <<< (v1 &&& 31))))) (b := v1) (by omega) (by omega)
  refine ok_lt (fun x1 ex1 => ?_)
  replace ex1 := congrArg Int32.toInt ex1
  refine bnd3_puM (sX12_mayCome (v1 := v1) (v2 := v2) (v3 := v3) hI (by omega) (by omega) (by omega) (by omega) (by omega) (by omega)) (fun y2 qy2 zy2 => ?_)
  refine ok_ite (fun c6 => ?_) (fun c6 => ?_)
  · have k7 : (0 : Int32).toInt = 0 := by decide
    replace c6 := i_eq.mp c6
    exact ok_some (mkPUM (by omega) (by omega))
  · have k8 : (0 : Int32).toInt = 0 := by decide
    replace c6 := i_ne.mp c6
    refine ok_gin (by omega) (by omega) ?_
    refine ok_ite (fun c9 => ?_) (fun c9 => ?_)
    · have k10 : (1000000000000000 : Int64).toInt = 1000000000000000 := by decide
      replace c9 := j_le.mp c9
      exact ok_some (mkPUM (by omega) (by omega))
    · have k11 : (1000000000000000 : Int64).toInt = 1000000000000000 := by decide
      replace c9 := j_nle.mp c9
      refine bnd3_pulM (sX12_cost (v1 := v1) (v2 := v2) hI (by omega) (by omega) (by omega) (by omega)) (fun y9 => ?_)
      refine ok_gin (by omega) (by omega) ?_
      have f12 := mul_l (a := (13 : Int32)) (b := v2) 13 (by decide) (by omega) (by omega)
      have f13 := add_i (a := ((13 : Int32) * v2)) (b := v3) (by omega) (by omega)
      refine ok_lt (fun x14 ex14 => ?_)
      replace ex14 := congrArg Int32.toInt ex14
      refine ok_gin (by omega) (by omega) ?_
      refine ok_ite (fun c14 => ?_) (fun c14 => ?_)
      · replace c14 := j_eq.mp c14
        have k15 : (1 : Int32).toInt = 1 := by decide
        exact ok_some (mkPUM (by omega) (by omega))
      · replace c14 := j_ne.mp c14
        exact ok_some (mkPUM (by omega) (by omega))
