theorem isNext_x {v1 : Int32} {sg : Sg} {lg : Lg} (hI : IM sg lg) (v1l : 0 ≤ v1.toInt) (v1h : v1.toInt ≤ 11) : Ok (PXM sg lg 0 1 (fun (y : Int) => y = 0 ∨ ((sg 9 v1.toNatClampNeg).toInt < 0 ∧ mcnt (sg 1) v1))) (fX12_isNext v1 sg lg) := by
  have k0 : (0 : Int32).toInt = 0 := by decide
  by_cases c : mcnt (sg 1) v1
  · by_cases d : (sg 9 v1.toNatClampNeg) < 0
    · refine ok_mono (sX12_isNext hI v1l v1h) (fun r hr => ⟨hr.1, hr.2.1, hr.2.2, Or.inr ⟨by have := i_lt.mp d; omega, c⟩⟩)
    · unfold fX12_isNext
      refine bnd3_of (cts1 hI.2.2 c) ?_
      rw [ite1]
      refine ok_gin (by omega) (by omega) ?_
      rw [if_neg d]
      exact ok_some (mkPXM (by omega) (by omega) (Or.inl k0))
  · unfold fX12_isNext
    refine bnd3_of (cts0 hI.2.2 c) ?_
    rw [ite0]
    exact ok_some (mkPXM (by omega) (by omega) (Or.inl k0))
set_option maxHeartbeats 4000000 in
theorem sX12_findGroups_99 {Z0 : Int} {s0 : Sg} {l0 : Lg} {r29 : (Int32 × Int32 × Sg × Lg) → Option (Int32 × Sg × Lg)} {v1 : Int32} {v2 : Int32} {sg : Sg} {lg : Lg} (hS : StM MX12_findGroups s0 l0 sg lg) (v1l : 0 ≤ v1.toInt) (v1h : v1.toInt ≤ 12) (v2l : (-1) ≤ v2.toInt) (v2h : v2.toInt ≤ 11) (xb : v1.toInt + un sg ≤ 12) (xd : dg sg 12) (xz : 14 * un sg + 12 - v2.toInt < Z0) (hr29 : ∀ (v1' : Int32) (v2' : Int32) (sg' : Sg) (lg' : Lg), StM MX12_findGroups s0 l0 sg' lg' → 0 ≤ v1'.toInt → v1'.toInt ≤ 12 → 0 ≤ v2'.toInt → v2'.toInt ≤ 12 → (v1'.toInt + un sg' ≤ 12) → (dg sg' 12) → 14 * un sg' + 13 - v2'.toInt < Z0 → Ok (PIM MX12_findGroups s0 l0 0 12) (r29 (v1', v2', sg', lg'))) : Ok (PIM MX12_findGroups s0 l0 0 12) (fX12_findGroups_99 r29 v1 v2 sg lg) := by
  unfold fX12_findGroups_99
  refine ok_lt (fun x1 ex1 => ?_)
  replace ex1 : x1.toInt = v2.toInt + 1 := by rw [ex1]; exact add_c 1 (by decide) (by omega) (by omega)
  exact hr29 v1 x1 sg lg hS (by omega) (by omega) (by omega) (by omega) (by omega) xd (by omega)
set_option maxHeartbeats 4000000 in
theorem sX12_findGroups_87 {Z0 : Int} {s0 : Sg} {l0 : Lg} {r29 : (Int32 × Int32 × Sg × Lg) → Option (Int32 × Sg × Lg)} {r47 : (Int32 × Int32 × Int32 × Sg × Lg) → Option (Int32 × Sg × Lg)} {v1 : Int32} {v2 : Int32} {v3 : Int32} {w0 : Int32} {w1 : Int32} {sg : Sg} {lg : Lg} (hS : StM MX12_findGroups s0 l0 sg lg) (v1l : 0 ≤ v1.toInt) (v1h : v1.toInt ≤ 12) (v2l : 0 ≤ v2.toInt) (v2h : v2.toInt ≤ 11) (v3l : 0 ≤ v3.toInt) (v3h : v3.toInt ≤ 11) (w1l : 0 ≤ w1.toInt) (w1h : w1.toInt ≤ 11) (xd : dg sg 12) (xb : 14 * v1.toInt + Z0 - 13 + v2.toInt ≤ 168) (xz : 14 * un sg + 13 - v2.toInt ≤ Z0) (xg : v3.toInt ≤ v2.toInt ∨ 14 * un sg + 27 - v2.toInt ≤ Z0) (xn : v2.toInt < v3.toInt ∨ (sg 9 v2.toNatClampNeg).toInt < 0) (xc : mcnt (sg 1) v2) (xw : w1.toInt = v3.toInt) (xv : (w0.toInt = (sg 9 w1.toNatClampNeg).toInt ∧ v3.toInt ≠ v2.toInt) ∨ w0.toInt = v1.toInt) (hr29 : ∀ (v1' : Int32) (v2' : Int32) (sg' : Sg) (lg' : Lg), StM MX12_findGroups s0 l0 sg' lg' → 0 ≤ v1'.toInt → v1'.toInt ≤ 12 → 0 ≤ v2'.toInt → v2'.toInt ≤ 12 → (v1'.toInt + un sg' ≤ 12) → (dg sg' 12) → 14 * un sg' + 13 - v2'.toInt < Z0 → Ok (PIM MX12_findGroups s0 l0 0 12) (r29 (v1', v2', sg', lg'))) (hr47 : ∀ (v1' : Int32) (v2' : Int32) (v3' : Int32) (sg' : Sg) (lg' : Lg), StM MX12_findGroups s0 l0 sg' lg' → 0 ≤ v1'.toInt → v1'.toInt ≤ 12 → 0 ≤ v2'.toInt → v2'.toInt ≤ 11 → 0 ≤ v3'.toInt → v3'.toInt ≤ 12 → (dg sg' 12) → (14 * v1'.toInt + Z0 - 13 + v2'.toInt ≤ 168) → (14 * un sg' + 13 - v2'.toInt ≤ Z0) → (v3'.toInt ≤ v2'.toInt ∨ 14 * un sg' + 27 - v2'.toInt ≤ Z0) → (v2'.toInt < v3'.toInt ∨ (sg' 9 v2'.toNatClampNeg).toInt < 0) → (mcnt (sg' 1) v2') → (∀ (v1'' : Int32) (v2'' : Int32) (sg'' : Sg) (lg'' : Lg), StM MX12_findGroups s0 l0 sg'' lg'' → 0 ≤ v1''.toInt → v1''.toInt ≤ 12 → 0 ≤ v2''.toInt → v2''.toInt ≤ 12 → (v1''.toInt + un sg'' ≤ 12) → (dg sg'' 12) → 14 * un sg'' + 13 - v2''.toInt < Z0 → Ok (PIM MX12_findGroups s0 l0 0 12) (r29 (v1'', v2'', sg'', lg''))) → v3.toInt < v3'.toInt → Ok (PIM MX12_findGroups s0 l0 0 12) (r47 (v1', v2', v3', sg', lg'))) : Ok (PIM MX12_findGroups s0 l0 0 12) (fX12_findGroups_87 r29 r47 v1 v2 v3 w0 w1 sg lg) := by
  unfold fX12_findGroups_87
  refine ok_gin (by omega) (by omega) ?_
  refine ok_lt (fun sg2 esg2 => ?_)
  have hS1 := upM9 hS (by decide) esg2
  have hu1 := un_le esg2 (by omega)
  have hcw := cl_i (i := w1) (by omega)
  have hcv := cl_i (i := v2) (by omega)
  have hu2 : v3.toInt ≠ v2.toInt ∨ un sg2 + 1 ≤ un sg := by
    by_cases q : v3.toInt = v2.toInt
    · exact Or.inr (un_lt esg2 (by omega) (by rw [show w1.toNatClampNeg = v2.toNatClampNeg by omega]; omega) (by omega))
    · exact Or.inl q
  refine ok_lt (fun x3 ex3 => ?_)
  replace ex3 : x3.toInt = v3.toInt + 1 := by rw [ex3]; exact add_c 1 (by decide) (by omega) (by omega)
  have hn2 : v2.toInt < x3.toInt ∨ (sg2 9 v2.toNatClampNeg).toInt < 0 := by
    by_cases q : v2.toInt < x3.toInt
    · exact Or.inl q
    · right
      rw [esg2, up2_is, if_neg (by omega)]
      omega
  exact hr47 v1 v2 x3 sg2 lg hS1 (by omega) (by omega) (by omega) (by omega) (by omega) (by omega) (dg_cg (by rw [esg2]; rfl) xd) (by omega) (by omega) (by omega) hn2 (by rw [esg2, up2_n (by decide)]; exact xc) hr29 (by omega)
set_option maxHeartbeats 4000000 in
theorem sX12_findGroups_81 {Z0 : Int} {s0 : Sg} {l0 : Lg} {r29 : (Int32 × Int32 × Sg × Lg) → Option (Int32 × Sg × Lg)} {r47 : (Int32 × Int32 × Int32 × Sg × Lg) → Option (Int32 × Sg × Lg)} {v1 : Int32} {v2 : Int32} {v3 : Int32} {w0 : Int32} {sg : Sg} {lg : Lg} (hS : StM MX12_findGroups s0 l0 sg lg) (v1l : 0 ≤ v1.toInt) (v1h : v1.toInt ≤ 12) (v2l : 0 ≤ v2.toInt) (v2h : v2.toInt ≤ 11) (v3l : 0 ≤ v3.toInt) (v3h : v3.toInt ≤ 11) (w0l : 0 ≤ w0.toInt) (w0h : w0.toInt ≤ 11) (xd : dg sg 12) (xb : 14 * v1.toInt + Z0 - 13 + v2.toInt ≤ 168) (xz : 14 * un sg + 13 - v2.toInt ≤ Z0) (xg : v3.toInt ≤ v2.toInt ∨ 14 * un sg + 27 - v2.toInt ≤ Z0) (xn : v2.toInt < v3.toInt ∨ (sg 9 v2.toNatClampNeg).toInt < 0) (xc : mcnt (sg 1) v2) (xw : w0.toInt = v3.toInt) (xv : v3.toInt ≠ v2.toInt) (hr29 : ∀ (v1' : Int32) (v2' : Int32) (sg' : Sg) (lg' : Lg), StM MX12_findGroups s0 l0 sg' lg' → 0 ≤ v1'.toInt → v1'.toInt ≤ 12 → 0 ≤ v2'.toInt → v2'.toInt ≤ 12 → (v1'.toInt + un sg' ≤ 12) → (dg sg' 12) → 14 * un sg' + 13 - v2'.toInt < Z0 → Ok (PIM MX12_findGroups s0 l0 0 12) (r29 (v1', v2', sg', lg'))) (hr47 : ∀ (v1' : Int32) (v2' : Int32) (v3' : Int32) (sg' : Sg) (lg' : Lg), StM MX12_findGroups s0 l0 sg' lg' → 0 ≤ v1'.toInt → v1'.toInt ≤ 12 → 0 ≤ v2'.toInt → v2'.toInt ≤ 11 → 0 ≤ v3'.toInt → v3'.toInt ≤ 12 → (dg sg' 12) → (14 * v1'.toInt + Z0 - 13 + v2'.toInt ≤ 168) → (14 * un sg' + 13 - v2'.toInt ≤ Z0) → (v3'.toInt ≤ v2'.toInt ∨ 14 * un sg' + 27 - v2'.toInt ≤ Z0) → (v2'.toInt < v3'.toInt ∨ (sg' 9 v2'.toNatClampNeg).toInt < 0) → (mcnt (sg' 1) v2') → (∀ (v1'' : Int32) (v2'' : Int32) (sg'' : Sg) (lg'' : Lg), StM MX12_findGroups s0 l0 sg'' lg'' → 0 ≤ v1''.toInt → v1''.toInt ≤ 12 → 0 ≤ v2''.toInt → v2''.toInt ≤ 12 → (v1''.toInt + un sg'' ≤ 12) → (dg sg'' 12) → 14 * un sg'' + 13 - v2''.toInt < Z0 → Ok (PIM MX12_findGroups s0 l0 0 12) (r29 (v1'', v2'', sg'', lg''))) → v3.toInt < v3'.toInt → Ok (PIM MX12_findGroups s0 l0 0 12) (r47 (v1', v2', v3', sg', lg'))) : Ok (PIM MX12_findGroups s0 l0 0 12) (fX12_findGroups_81 r29 r47 v1 v2 v3 w0 sg lg) := by
  unfold fX12_findGroups_81
  refine ok_gin (by omega) (by omega) ?_
  exact sX12_findGroups_87 hS (by omega) (by omega) (by omega) (by omega) (by omega) (by omega) (by omega) (by omega) xd (by omega) (by omega) (by omega) xn xc (by omega) (Or.inl ⟨by rw [Int32.toInt_inj.mp xw], xv⟩) hr29 hr47
set_option maxHeartbeats 4000000 in
theorem sX12_findGroups_47 {Z0 : Int} {s0 : Sg} {l0 : Lg} {r29 : (Int32 × Int32 × Sg × Lg) → Option (Int32 × Sg × Lg)} {r47 : (Int32 × Int32 × Int32 × Sg × Lg) → Option (Int32 × Sg × Lg)} {v1 : Int32} {v2 : Int32} {v3 : Int32} {sg : Sg} {lg : Lg} (hS : StM MX12_findGroups s0 l0 sg lg) (v1l : 0 ≤ v1.toInt) (v1h : v1.toInt ≤ 12) (v2l : 0 ≤ v2.toInt) (v2h : v2.toInt ≤ 11) (v3l : 0 ≤ v3.toInt) (v3h : v3.toInt ≤ 12) (xd : dg sg 12) (xb : 14 * v1.toInt + Z0 - 13 + v2.toInt ≤ 168) (xz : 14 * un sg + 13 - v2.toInt ≤ Z0) (xg : v3.toInt ≤ v2.toInt ∨ 14 * un sg + 27 - v2.toInt ≤ Z0) (xn : v2.toInt < v3.toInt ∨ (sg 9 v2.toNatClampNeg).toInt < 0) (xc : mcnt (sg 1) v2) (hr29 : ∀ (v1' : Int32) (v2' : Int32) (sg' : Sg) (lg' : Lg), StM MX12_findGroups s0 l0 sg' lg' → 0 ≤ v1'.toInt → v1'.toInt ≤ 12 → 0 ≤ v2'.toInt → v2'.toInt ≤ 12 → (v1'.toInt + un sg' ≤ 12) → (dg sg' 12) → 14 * un sg' + 13 - v2'.toInt < Z0 → Ok (PIM MX12_findGroups s0 l0 0 12) (r29 (v1', v2', sg', lg'))) (hr47 : ∀ (v1' : Int32) (v2' : Int32) (v3' : Int32) (sg' : Sg) (lg' : Lg), StM MX12_findGroups s0 l0 sg' lg' → 0 ≤ v1'.toInt → v1'.toInt ≤ 12 → 0 ≤ v2'.toInt → v2'.toInt ≤ 11 → 0 ≤ v3'.toInt → v3'.toInt ≤ 12 → (dg sg' 12) → (14 * v1'.toInt + Z0 - 13 + v2'.toInt ≤ 168) → (14 * un sg' + 13 - v2'.toInt ≤ Z0) → (v3'.toInt ≤ v2'.toInt ∨ 14 * un sg' + 27 - v2'.toInt ≤ Z0) → (v2'.toInt < v3'.toInt ∨ (sg' 9 v2'.toNatClampNeg).toInt < 0) → (mcnt (sg' 1) v2') → (∀ (v1'' : Int32) (v2'' : Int32) (sg'' : Sg) (lg'' : Lg), StM MX12_findGroups s0 l0 sg'' lg'' → 0 ≤ v1''.toInt → v1''.toInt ≤ 12 → 0 ≤ v2''.toInt → v2''.toInt ≤ 12 → (v1''.toInt + un sg'' ≤ 12) → (dg sg'' 12) → 14 * un sg'' + 13 - v2''.toInt < Z0 → Ok (PIM MX12_findGroups s0 l0 0 12) (r29 (v1'', v2'', sg'', lg''))) → v3.toInt < v3'.toInt → Ok (PIM MX12_findGroups s0 l0 0 12) (r47 (v1', v2', v3', sg', lg'))) : Ok (PIM MX12_findGroups s0 l0 0 12) (fX12_findGroups_47 r29 r47 v1 v2 v3 sg lg) := by
  unfold fX12_findGroups_47
  have k0 : (0 : Int32).toInt = 0 := by decide
  have km : (-1 : Int32).toInt = -1 := by decide
  have hc1 := xc.1
  have hc2 := xc.2.1
  have uu := un_nn sg
  refine bnd3_of hens_is ?_
  have hy := rdM1_0 hS.1
  refine ok_ite (fun c1 => ?_) (fun c1 => ?_)
  · replace c1 := i_le.mp c1
    refine ok_lt (fun x6 ex6 => ?_)
    replace ex6 : x6.toInt = v1.toInt + 1 := by rw [ex6]; exact add_c 1 (by decide) (by omega) (by omega)
    exact sX12_findGroups_99 (Z0 := Z0) hS (by omega) (by omega) (by omega) (by omega) (by omega) xd (by omega) hr29
  · replace c1 := i_nle.mp c1
    by_cases q : v3.toInt = v2.toInt
    · have q' : v3 = v2 := Int32.toInt_inj.mp q
      subst q'
      refine bnd3_of (cts1 hS.1.2.2 xc) ?_
      rw [ite1]
      refine bnd3_of (isOne_dg (by omega) (by omega) xd) ?_
      rw [ite1]
      exact sX12_findGroups_87 (Z0 := Z0) hS (by omega) (by omega) (by omega) (by omega) (by omega) (by omega) (by omega) (by omega) xd (by omega) (by omega) (by omega) xn xc (by omega) (by omega) hr29 hr47
    · refine bnd3_pxM (sX12_counts (v1 := v3) hS.1) (fun y7 qy7 zy7 xy7 => ?_)
      replace xy7 : y7.toInt = 0 ∨ (0 ≤ v3.toInt ∧ v3.toInt ≤ 11) := xy7
      refine ok_ite (fun c4 => ?_) (fun c4 => ?_)
      · exact sX12_findGroups_81 (Z0 := Z0) hS (by omega) (by omega) (by omega) (by omega) (by omega) (by omega) (by omega) (by omega) xd (by omega) (by omega) (by omega) xn xc (by omega) (by omega) hr29 hr47
      · refine bnd3_puM (sX12_isOne (v1 := v3) (v2 := v2) hS.1 (by omega) (by omega) (by omega) (by omega)) (fun y12 qy12 zy12 => ?_)
        refine ok_ite (fun c7 => ?_) (fun c7 => ?_)
        · exact sX12_findGroups_81 (Z0 := Z0) hS (by omega) (by omega) (by omega) (by omega) (by omega) (by omega) (by omega) (by omega) xd (by omega) (by omega) (by omega) xn xc (by omega) (by omega) hr29 hr47
        · exact sX12_findGroups_87 (Z0 := Z0) hS (by omega) (by omega) (by omega) (by omega) (by omega) (by omega) (by omega) (by omega) xd (by omega) (by omega) (by omega) xn xc (by omega) (by omega) hr29 hr47
set_option maxHeartbeats 4000000 in
theorem sLX12_findGroups_47 {Z0 : Int} {s0 : Sg} {l0 : Lg} {r29 : (Int32 × Int32 × Sg × Lg) → Option (Int32 × Sg × Lg)} {v1 : Int32} {v2 : Int32} {v3 : Int32} {sg : Sg} {lg : Lg} (hS : StM MX12_findGroups s0 l0 sg lg) (v1l : 0 ≤ v1.toInt) (v1h : v1.toInt ≤ 12) (v2l : 0 ≤ v2.toInt) (v2h : v2.toInt ≤ 11) (v3l : 0 ≤ v3.toInt) (v3h : v3.toInt ≤ 12) (xd : (dg sg 12)) (xb : (14 * v1.toInt + Z0 - 13 + v2.toInt ≤ 168)) (xz : (14 * un sg + 13 - v2.toInt ≤ Z0)) (xg : (v3.toInt ≤ v2.toInt ∨ 14 * un sg + 27 - v2.toInt ≤ Z0)) (xn : (v2.toInt < v3.toInt ∨ (sg 9 v2.toNatClampNeg).toInt < 0)) (xc : (mcnt (sg 1) v2)) (hr29 : ∀ (v1' : Int32) (v2' : Int32) (sg' : Sg) (lg' : Lg), StM MX12_findGroups s0 l0 sg' lg' → 0 ≤ v1'.toInt → v1'.toInt ≤ 12 → 0 ≤ v2'.toInt → v2'.toInt ≤ 12 → (v1'.toInt + un sg' ≤ 12) → (dg sg' 12) → 14 * un sg' + 13 - v2'.toInt < Z0 → Ok (PIM MX12_findGroups s0 l0 0 12) (r29 (v1', v2', sg', lg'))) : Ok (PIM MX12_findGroups s0 l0 0 12) (LX12_findGroups_47 r29 (v1, v2, v3, sg, lg)) := by
  unfold LX12_findGroups_47
  refine ok_loop (I := fun (z : Int32 × Int32 × Int32 × Sg × Lg) => StM MX12_findGroups s0 l0 z.2.2.2.1 z.2.2.2.2 ∧ 0 ≤ z.1.toInt ∧ z.1.toInt ≤ 12 ∧ 0 ≤ z.2.1.toInt ∧ z.2.1.toInt ≤ 11 ∧ 0 ≤ z.2.2.1.toInt ∧ z.2.2.1.toInt ≤ 12 ∧ (dg z.2.2.2.1 12) ∧ (14 * z.1.toInt + Z0 - 13 + z.2.1.toInt ≤ 168) ∧ (14 * un z.2.2.2.1 + 13 - z.2.1.toInt ≤ Z0) ∧ (z.2.2.1.toInt ≤ z.2.1.toInt ∨ 14 * un z.2.2.2.1 + 27 - z.2.1.toInt ≤ Z0) ∧ (z.2.1.toInt < z.2.2.1.toInt ∨ (z.2.2.2.1 9 z.2.1.toNatClampNeg).toInt < 0) ∧ (mcnt (z.2.2.2.1 1) z.2.1) ∧ (∀ (v1' : Int32) (v2' : Int32) (sg' : Sg) (lg' : Lg), StM MX12_findGroups s0 l0 sg' lg' → 0 ≤ v1'.toInt → v1'.toInt ≤ 12 → 0 ≤ v2'.toInt → v2'.toInt ≤ 12 → (v1'.toInt + un sg' ≤ 12) → (dg sg' 12) → 14 * un sg' + 13 - v2'.toInt < Z0 → Ok (PIM MX12_findGroups s0 l0 0 12) (r29 (v1', v2', sg', lg')))) (m := fun (z : Int32 × Int32 × Int32 × Sg × Lg) => (13 - z.2.2.1.toInt).toNat) _ ?_ ?_ _ ?_
  · intro z hz
    obtain ⟨h0, h1, h2, h3, h4, h5, h6, h7, h8, h9, h10, h11, h12, h13⟩ := hz
    show (13 - z.2.2.1.toInt).toNat < 10000
    omega
  · intro rec z hz hrec
    obtain ⟨v1, v2, v3, sg, lg⟩ := z
    replace hz : StM MX12_findGroups s0 l0 sg lg ∧ 0 ≤ v1.toInt ∧ v1.toInt ≤ 12 ∧ 0 ≤ v2.toInt ∧ v2.toInt ≤ 11 ∧ 0 ≤ v3.toInt ∧ v3.toInt ≤ 12 ∧ (dg sg 12) ∧ (14 * v1.toInt + Z0 - 13 + v2.toInt ≤ 168) ∧ (14 * un sg + 13 - v2.toInt ≤ Z0) ∧ (v3.toInt ≤ v2.toInt ∨ 14 * un sg + 27 - v2.toInt ≤ Z0) ∧ (v2.toInt < v3.toInt ∨ (sg 9 v2.toNatClampNeg).toInt < 0) ∧ (mcnt (sg 1) v2) ∧ (∀ (v1' : Int32) (v2' : Int32) (sg' : Sg) (lg' : Lg), StM MX12_findGroups s0 l0 sg' lg' → 0 ≤ v1'.toInt → v1'.toInt ≤ 12 → 0 ≤ v2'.toInt → v2'.toInt ≤ 12 → (v1'.toInt + un sg' ≤ 12) → (dg sg' 12) → 14 * un sg' + 13 - v2'.toInt < Z0 → Ok (PIM MX12_findGroups s0 l0 0 12) (r29 (v1', v2', sg', lg'))) := hz
    obtain ⟨h0, h1, h2, h3, h4, h5, h6, h7, h8, h9, h10, h11, h12, h13⟩ := hz
    show Ok (PIM MX12_findGroups s0 l0 0 12) (fX12_findGroups_47 r29 rec v1 v2 v3 sg lg)
    exact sX12_findGroups_47 h0 h1 h2 h3 h4 h5 h6 h7 h8 h9 h10 h11 h12 h13 (fun v1' v2' v3' sg' lg' g0 g1 g2 g3 g4 g5 g6 g7 g8 g9 g10 g11 g12 g13 g14 => hrec (v1', v2', v3', sg', lg') ⟨g0, g1, g2, g3, g4, g5, g6, g7, g8, g9, g10, g11, g12, g13⟩ (show (13 - v3'.toInt).toNat < (13 - v3.toInt).toNat by omega))
  · exact ⟨hS, v1l, v1h, v2l, v2h, v3l, v3h, xd, xb, xz, xg, xn, xc, hr29⟩
set_option maxHeartbeats 4000000 in
theorem sX12_findGroups_29 {Z0 : Int} {s0 : Sg} {l0 : Lg} {r29 : (Int32 × Int32 × Sg × Lg) → Option (Int32 × Sg × Lg)} {v1 : Int32} {v2 : Int32} {sg : Sg} {lg : Lg} (hS : StM MX12_findGroups s0 l0 sg lg) (v1l : 0 ≤ v1.toInt) (v1h : v1.toInt ≤ 12) (v2l : 0 ≤ v2.toInt) (v2h : v2.toInt ≤ 12) (xb : v1.toInt + un sg ≤ 12) (xd : dg sg 12) (xz : 14 * un sg + 13 - v2.toInt = Z0) (hr29 : ∀ (v1' : Int32) (v2' : Int32) (sg' : Sg) (lg' : Lg), StM MX12_findGroups s0 l0 sg' lg' → 0 ≤ v1'.toInt → v1'.toInt ≤ 12 → 0 ≤ v2'.toInt → v2'.toInt ≤ 12 → (v1'.toInt + un sg' ≤ 12) → (dg sg' 12) → 14 * un sg' + 13 - v2'.toInt < Z0 → Ok (PIM MX12_findGroups s0 l0 0 12) (r29 (v1', v2', sg', lg'))) : Ok (PIM MX12_findGroups s0 l0 0 12) (fX12_findGroups_29 r29 v1 v2 sg lg) := by
  unfold fX12_findGroups_29
  refine bnd3_puM (sX12_hens  hS.1) (fun y1 qy1 zy1 => ?_)
  refine ok_ite (fun c1 => ?_) (fun c1 => ?_)
  · replace c1 := i_le.mp c1
    exact ok_some (mkPIM hS (by omega) (by omega))
  · replace c1 := i_nle.mp c1
    refine bnd3_pxM (isNext_x (v1 := v2) hS.1 (by omega) (by omega)) (fun y6 qy6 zy6 xy6 => ?_)
    replace xy6 : y6.toInt = 0 ∨ ((sg 9 v2.toNatClampNeg).toInt < 0 ∧ mcnt (sg 1) v2) := xy6
    refine ok_ite (fun c2 => ?_) (fun c2 => ?_)
    · have k3 : (0 : Int32).toInt = 0 := by decide
      replace c2 := i_eq.mp c2
      exact sX12_findGroups_99 hS (by omega) (by omega) (by omega) (by omega) (by omega) xd (by omega) hr29
    · have k4 : (0 : Int32).toInt = 0 := by decide
      replace c2 := i_ne.mp c2
      have x6 : (sg 9 v2.toNatClampNeg).toInt < 0 ∧ mcnt (sg 1) v2 := by
        rcases xy6 with z | z
        · omega
        · exact z
      obtain ⟨x7, x8⟩ := x6
      exact sLX12_findGroups_47 (Z0 := Z0) hS (by omega) (by omega) (by omega) (by omega) (by omega) (by omega) xd (by omega) (by omega) (by omega) (by omega) x8 hr29
theorem sLX12_findGroups_29 {s0 : Sg} {l0 : Lg} {v1 : Int32} {v2 : Int32} {sg : Sg} {lg : Lg} (hS : StM MX12_findGroups s0 l0 sg lg) (v1l : 0 ≤ v1.toInt) (v1h : v1.toInt ≤ 12) (v2l : 0 ≤ v2.toInt) (v2h : v2.toInt ≤ 12) (xb : v1.toInt + un sg ≤ 12) (xd : dg sg 12) : Ok (PIM MX12_findGroups s0 l0 0 12) (LX12_findGroups_29 (v1, v2, sg, lg)) := by
  unfold LX12_findGroups_29
  refine ok_loop (I := fun (z : Int32 × Int32 × Sg × Lg) => StM MX12_findGroups s0 l0 z.2.2.1 z.2.2.2 ∧ 0 ≤ z.1.toInt ∧ z.1.toInt ≤ 12 ∧ 0 ≤ z.2.1.toInt ∧ z.2.1.toInt ≤ 12 ∧ (z.1.toInt + un z.2.2.1 ≤ 12) ∧ dg z.2.2.1 12) (m := fun (z : Int32 × Int32 × Sg × Lg) => (14 * un z.2.2.1 + 13 - z.2.1.toInt).toNat) _ ?_ ?_ _ ?_
  · intro z hz
    obtain ⟨h0, h1, h2, h3, h4, h5, h6⟩ := hz
    have := un_mx z.2.2.1
    show (14 * un z.2.2.1 + 13 - z.2.1.toInt).toNat < 10000
    omega
  · intro rec z hz hrec
    obtain ⟨v1, v2, sg, lg⟩ := z
    replace hz : StM MX12_findGroups s0 l0 sg lg ∧ 0 ≤ v1.toInt ∧ v1.toInt ≤ 12 ∧ 0 ≤ v2.toInt ∧ v2.toInt ≤ 12 ∧ (v1.toInt + un sg ≤ 12) ∧ dg sg 12 := hz
    obtain ⟨h0, h1, h2, h3, h4, h5, h6⟩ := hz
    show Ok (PIM MX12_findGroups s0 l0 0 12) (fX12_findGroups_29 rec v1 v2 sg lg)
    exact sX12_findGroups_29 (Z0 := 14 * un sg + 13 - v2.toInt) h0 h1 h2 h3 h4 h5 h6 rfl (fun v1' v2' sg' lg' g0 g1 g2 g3 g4 g5 g6 g7 => hrec (v1', v2', sg', lg') ⟨g0, g1, g2, g3, g4, g5, g6⟩ (show (14 * un sg' + 13 - v2'.toInt).toNat < (14 * un sg + 13 - v2.toInt).toNat by have := un_nn sg'; omega))
  · exact ⟨hS, v1l, v1h, v2l, v2h, xb, xd⟩
set_option maxHeartbeats 4000000 in
theorem sX12_findGroups_6 {s0 : Sg} {l0 : Lg} {r6 : (Int32 × Sg × Lg) → Option (Int32 × Sg × Lg)} {v1 : Int32} {sg : Sg} {lg : Lg} (hS : StM MX12_findGroups s0 l0 sg lg) (v1l : 0 ≤ v1.toInt) (v1h : v1.toInt ≤ 12) (xd : dg sg 12) (hr6 : ∀ (v1' : Int32) (sg' : Sg) (lg' : Lg), StM MX12_findGroups s0 l0 sg' lg' → 0 ≤ v1'.toInt → v1'.toInt ≤ 12 → (dg sg' 12) → v1.toInt < v1'.toInt → Ok (PIM MX12_findGroups s0 l0 0 12) (r6 (v1', sg', lg'))) : Ok (PIM MX12_findGroups s0 l0 0 12) (fX12_findGroups_6 r6 v1 sg lg) := by
  unfold fX12_findGroups_6
  refine ok_ite (fun c1 => ?_) (fun c1 => ?_)
  · have k2 : (12 : Int32).toInt = 12 := by decide
    replace c1 := i_le.mp c1
    have k3 : (0 : Int32).toInt = 0 := by decide
    exact sLX12_findGroups_29 hS (by omega) (by omega) (by omega) (by omega) (by have := un_mx sg; omega) xd
  · have k4 : (12 : Int32).toInt = 12 := by decide
    replace c1 := i_nle.mp c1
    refine ok_gin (by omega) (by omega) ?_
    have k5 : (-1 : Int32).toInt = -1 := by decide
    refine ok_lt (fun sg3 esg3 => ?_)
    have hS6 := upM9 hS (by decide) esg3
    refine ok_lt (fun x4 ex4 => ?_)
    replace ex4 : x4.toInt = v1.toInt + 1 := by rw [ex4]; exact add_c 1 (by decide) (by omega) (by omega)
    exact hr6 x4 sg3 lg hS6 (by omega) (by omega) (dg_cg (by rw [esg3]; rfl) xd) (by omega)
set_option maxHeartbeats 4000000 in
theorem sLX12_findGroups_6 {s0 : Sg} {l0 : Lg} {v1 : Int32} {sg : Sg} {lg : Lg} (hS : StM MX12_findGroups s0 l0 sg lg) (v1l : 0 ≤ v1.toInt) (v1h : v1.toInt ≤ 12) (xd : (dg sg 12)) : Ok (PIM MX12_findGroups s0 l0 0 12) (LX12_findGroups_6 (v1, sg, lg)) := by
  unfold LX12_findGroups_6
  refine ok_loop (I := fun (z : Int32 × Sg × Lg) => StM MX12_findGroups s0 l0 z.2.1 z.2.2 ∧ 0 ≤ z.1.toInt ∧ z.1.toInt ≤ 12 ∧ (dg z.2.1 12)) (m := fun (z : Int32 × Sg × Lg) => (13 - z.1.toInt).toNat) _ ?_ ?_ _ ?_
  · intro z hz
    obtain ⟨h0, h1, h2, h3⟩ := hz
    show (13 - z.1.toInt).toNat < 10000
    omega
  · intro rec z hz hrec
    obtain ⟨v1, sg, lg⟩ := z
    replace hz : StM MX12_findGroups s0 l0 sg lg ∧ 0 ≤ v1.toInt ∧ v1.toInt ≤ 12 ∧ (dg sg 12) := hz
    obtain ⟨h0, h1, h2, h3⟩ := hz
    show Ok (PIM MX12_findGroups s0 l0 0 12) (fX12_findGroups_6 rec v1 sg lg)
    exact sX12_findGroups_6 h0 h1 h2 h3 (fun v1' sg' lg' g0 g1 g2 g3 g4 => hrec (v1', sg', lg') ⟨g0, g1, g2, g3⟩ (show (13 - v1'.toInt).toNat < (13 - v1.toInt).toNat by omega))
  · exact ⟨hS, v1l, v1h, xd⟩
set_option maxHeartbeats 4000000 in
theorem sX12_findGroups {sg : Sg} {lg : Lg} (hI : IM sg lg) : Ok (PIM MX12_findGroups sg lg 0 12) (fX12_findGroups sg lg) := by
  have hS : StM MX12_findGroups sg lg sg lg := StM.rf hI
  unfold fX12_findGroups
  refine bnd2_pvxM (sX12_findReach  hS.1) (fun sg1 lg2 hsg1 xsg1 => ?_)
  replace xsg1 : dg sg1 12 := xsg1
  have hS1 := hS.tr hsg1 (by decide)
  have k2 : (0 : Int32).toInt = 0 := by decide
  exact sLX12_findGroups_6 hS1 (by omega) (by omega) xsg1
set_option maxHeartbeats 4000000 in
theorem sX12_groups {sg : Sg} {lg : Lg} (hI : IM sg lg) : Ok (PLM MX12_groups sg lg) (fX12_groups sg lg) := by
  have hS : StM MX12_groups sg lg sg lg := StM.rf hI
  unfold fX12_groups
  refine bnd3_piM (sX12_findGroups  hS.1) (fun y1 sg2 lg3 hsg2 qy1 zy1 => ?_)
  have hS1 := hS.tr hsg2 (by decide)
  exact ok_some (mkPLM hS1)
set_option maxHeartbeats 4000000 in
theorem sX12_groupOf {v1 : Int32} {sg : Sg} {lg : Lg} (hI : IM sg lg) : Ok (PLM MX12_groupOf sg lg) (fX12_groupOf v1 sg lg) := by
  have hS : StM MX12_groupOf sg lg sg lg := StM.rf hI
  unfold fX12_groupOf
  refine bnd3_pxM (sX12_isHen (v1 := v1) hS.1) (fun y1 qy1 zy1 xy1 => ?_)
  replace xy1 : y1.toInt = 0 ∨ (0 ≤ v1.toInt ∧ v1.toInt ≤ 11) := xy1
  refine ok_ite (fun c1 => ?_) (fun c1 => ?_)
  · have k2 : (0 : Int32).toInt = 0 := by decide
    replace c1 := i_eq.mp c1
    exact ok_some (mkPLM hS)
  · have k3 : (0 : Int32).toInt = 0 := by decide
    replace c1 := i_ne.mp c1
    refine bnd3_pxM (sX12_counts (v1 := v1) hS.1) (fun y6 qy6 zy6 xy6 => ?_)
    replace xy6 : y6.toInt = 0 ∨ (0 ≤ v1.toInt ∧ v1.toInt ≤ 11) := xy6
    refine ok_ite (fun c4 => ?_) (fun c4 => ?_)
    · replace c4 := i_eq.mp c4
      exact ok_some (mkPLM hS)
    · replace c4 := i_ne.mp c4
      refine bnd3_piM (sX12_findGroups  hS.1) (fun y11 sg12 lg13 hsg12 qy11 zy11 => ?_)
      have hS5 := hS.tr hsg12 (by decide)
      refine ok_gin (by omega) (by omega) ?_
      exact ok_some (mkPLM hS5)
/-! rings of the reference -/
def chain (sg : Sg) (m : Nat) : Prop := (∀ i, i + 1 < m → 0 < (sg 10 (12 * (sg 11 i).toNatClampNeg + (sg 11 (i + 1)).toNatClampNeg)).toInt) ∧ (∀ i j, i < j → j < m → sg 11 i ≠ sg 11 j)
def ringP (sg : Sg) (z : Nat) : Prop := chain sg z ∧ 0 < (sg 10 (12 * (sg 11 (z - 1)).toNatClampNeg + (sg 11 0).toNatClampNeg)).toInt
theorem chain_cg {sg sg' : Sg} {m : Nat} (h : chain sg m) (h11 : ∀ i, i < m → sg' 11 i = sg 11 i) (h10 : sg' 10 = sg 10) : chain sg' m := by
  refine ⟨fun i hi => ?_, fun i j hi hj => ?_⟩
  · rw [h11 i (by omega), h11 (i + 1) hi, h10]; exact h.1 i hi
  · rw [h11 i (by omega), h11 j hj]; exact h.2 i j hi hj
theorem chain_put {sg sg' : Sg} {m : Nat} {v : Int32} (h : chain sg m) (hm : 1 ≤ m) (e : sg' = up2 sg 11 m v) (hn : ∀ i, i < m → sg 11 i ≠ v) (hp : 0 < (sg 10 (12 * (sg 11 (m - 1)).toNatClampNeg + v.toNatClampNeg)).toInt) : chain sg' (m + 1) := by
  have o : ∀ i, i < m → sg' 11 i = sg 11 i := fun i hi => by rw [e]; exact up2_is _ _ _ _ _ _ ▸ (if_neg (by omega))
  have s : sg' 11 m = v := by rw [e, up2_is, if_pos ⟨rfl, rfl⟩]
  have t : sg' 10 = sg 10 := by rw [e]; exact up2_n (by decide)
  refine ⟨fun i hi => ?_, fun i j hi hj => ?_⟩
  · by_cases c : i + 1 = m
    · rw [c, s, o i (by omega), t, show i = m - 1 by omega]; exact hp
    · rw [o i (by omega), o (i + 1) (by omega), t]; exact h.1 i (by omega)
  · by_cases c : j = m
    · rw [c, s, o i (by omega)]; exact hn i (by omega)
    · rw [o i (by omega), o j (by omega)]; exact h.2 i j hi (by omega)
def PCl (s0 : Sg) (l0 : Lg) (m z : Nat) : Int32 × Sg × Lg → Prop := fun r => StM MX12_closes s0 l0 r.2.1 r.2.2 ∧ 0 ≤ r.1.toInt ∧ r.1.toInt ≤ 1 ∧ (∀ i, i < m → r.2.1 11 i = s0 11 i) ∧ (r.1.toInt = 0 ∨ ringP r.2.1 z)
set_option maxHeartbeats 4000000 in
theorem sLX12_closes_64 {s0 sg : Sg} {l0 lg : Lg} {rc : Int32 × Int32 × Sg × Lg → Option (Int32 × Sg × Lg)} {r49 : (Int32 × Int32 × Int32 × Int32 × Sg × Lg) → Option (Int32 × Sg × Lg)} {v1 v2 v3 v4 : Int32} {m z : Nat} (hm : v1.toInt = (m : Int)) (hm1 : 1 ≤ m) (hm2 : m ≤ 11) (hS : StM MX12_closes s0 l0 sg lg) (hpre : ∀ i, i < m → sg 11 i = s0 11 i) (hch : chain s0 m) (h3 : v3 = s0 11 (m - 1)) (v4l : 0 ≤ v4.toInt) (v4h : v4.toInt ≤ 11)
    (hr49 : ∀ (x : Int32) (sg' : Sg) (lg' : Lg), StM MX12_closes s0 l0 sg' lg' → (∀ i, i < m → sg' 11 i = s0 11 i) → x.toInt = v4.toInt + 1 → Ok (PCl s0 l0 m z) (r49 (v1, v2, v3, x, sg', lg')))
    (hrc : ∀ (sg' : Sg) (lg' : Lg), IM sg' lg' → chain sg' (m + 1) → Ok (PCl sg' lg' (m + 1) z) (rc ((v1 + (1 : Int32)), v2, sg', lg'))) :
    Ok (PCl s0 l0 m z) (LX12_closes_64 rc r49 (v1, v2, v3, v4, (0 : Int32), (0 : Int32), sg, lg)) := by
  have k0 : (0 : Int32).toInt = 0 := by decide
  have k1 : (1 : Int32).toInt = 1 := by decide
  unfold LX12_closes_64
  refine ok_loop (I := fun (z : Int32 × Int32 × Int32 × Int32 × Int32 × Int32 × Sg × Lg) => z.1 = v1 ∧ z.2.1 = v2 ∧ z.2.2.1 = v3 ∧ z.2.2.2.1 = v4 ∧ z.2.2.2.2.2.2.1 = sg ∧ z.2.2.2.2.2.2.2 = lg ∧ 0 ≤ z.2.2.2.2.2.1.toInt ∧ z.2.2.2.2.2.1.toInt ≤ (m : Int) ∧ (z.2.2.2.2.1 = 0 → ∀ i : Nat, (i : Int) < z.2.2.2.2.2.1.toInt → sg 11 i ≠ v4)) (m := fun (z : Int32 × Int32 × Int32 × Int32 × Int32 × Int32 × Sg × Lg) => (13 - z.2.2.2.2.2.1.toInt).toNat) _ ?_ ?_ _ ?_
  · intro z hz
    have := hz.2.2.2.2.2.2.1
    show (13 - z.2.2.2.2.2.1.toInt).toNat < 10000
    omega
  · intro rec z hz hrec
    obtain ⟨a1, a2, a3, a4, v5, v6, sg1, lg1⟩ := z
    replace hz : a1 = v1 ∧ a2 = v2 ∧ a3 = v3 ∧ a4 = v4 ∧ sg1 = sg ∧ lg1 = lg ∧ 0 ≤ v6.toInt ∧ v6.toInt ≤ (m : Int) ∧ (v5 = 0 → ∀ i : Nat, (i : Int) < v6.toInt → sg 11 i ≠ v4) := hz
    obtain ⟨e1, e2, e3, e4, e5, e6, q0, q1, q2⟩ := hz
    subst e1 e2 e3 e4 e5 e6
    show Ok _ (fX12_closes_64 rc r49 rec a1 a2 a3 a4 v5 v6 sg1 lg1)
    have go : ∀ (sg' : Sg) (lg' : Lg), StM MX12_closes s0 l0 sg' lg' → (∀ i, i < m → sg' 11 i = s0 11 i) → Ok (PCl s0 l0 m z) (fX12_closes_141 rc r49 a1 a2 a3 a4 sg' lg') := by
      intro sg' lg' w1 w2
      unfold fX12_closes_141
      refine ok_lt (fun x ex => ?_)
      replace ex : x.toInt = a4.toInt + 1 := by rw [ex]; exact add_c 1 k1 (by omega) (by omega)
      exact hr49 x sg' lg' w1 w2 ex
    have on : ∀ (w : Int32), v6.toInt < (m : Int) → (w = 0 → ∀ i : Nat, (i : Int) < v6.toInt + 1 → sg1 11 i ≠ a4) → Ok (PCl s0 l0 m z) (fX12_closes_92 rc r49 rec a1 a2 a3 a4 v6 w sg1 lg1) := by
      intro w w1 w2
      unfold fX12_closes_92
      refine ok_lt (fun x ex => ?_)
      replace ex : x.toInt = v6.toInt + 1 := by rw [ex]; exact add_c 1 k1 (by omega) (by omega)
      exact hrec (a1, a2, a3, a4, w, x, sg1, lg1) ⟨rfl, rfl, rfl, rfl, rfl, rfl, by show 0 ≤ x.toInt; omega, by show x.toInt ≤ (m : Int); omega, fun hw i hi => w2 hw i (by have hi' : (i : Int) < x.toInt := hi; omega)⟩ (show (13 - x.toInt).toNat < (13 - v6.toInt).toNat by omega)
    unfold fX12_closes_64
    refine ok_ite (fun c1 => ?_) (fun c1 => ?_)
    · replace c1 := i_le.mp c1
      refine ok_ite (fun c2 => ?_) (fun c2 => ?_)
      · have r3 := rdM11 hS.1 (j := m - 1)
        rw [hpre (m - 1) (by omega), ← h3] at r3
        have f1 := mul_l (a := (12 : Int32)) (b := a3) 12 (by decide) (by omega) (by omega)
        have f2 := add_i (a := (12 : Int32) * a3) (b := a4) (by omega) (by omega)
        have g1 := cl_i (i := (12 : Int32) * a3 + a4) (by omega)
        have g2 := cl_i (i := a3) (by omega)
        have g3 := cl_i v4l
        refine ok_lt (fun x3 ex3 => ?_)
        rw [ex3]
        refine ok_gin (by omega) (by omega) ?_
        refine ok_ite (fun c3 => ?_) (fun c3 => ?_)
        · exact go sg1 lg1 hS hpre
        · replace c3 := i_nle.mp c3
          refine ok_gin (by omega) (by omega) ?_
          refine ok_lt (fun sg7 esg7 => ?_)
          have hS7 := upM11 hS (by decide) esg7 (by omega) (by omega)
          have gm : a1.toNatClampNeg = m := by have := cl_i (i := a1) (by omega); omega
          rw [gm] at esg7
          have hch1 : chain sg1 m := chain_cg hch hpre (hS.fr 10 (by decide))
          have hch7 : chain sg7 (m + 1) := by
            refine chain_put hch1 hm1 esg7 (fun i hi => q2 c2 i (by omega)) ?_
            rw [hpre (m - 1) (by omega), ← h3]
            rw [show ((12 : Int32) * a3 + a4).toNatClampNeg = 12 * a3.toNatClampNeg + a4.toNatClampNeg by omega] at c3
            omega
          refine ok_bnd3 (hrc sg7 lg1 hS7.1 hch7) (fun y8 sg9 lg10 hq => ?_)
          obtain ⟨p1, p2, p3, p4, p5⟩ := hq
          replace p1 : StM MX12_closes sg7 lg1 sg9 lg10 := p1
          replace p2 : 0 ≤ y8.toInt := p2
          replace p3 : y8.toInt ≤ 1 := p3
          replace p4 : ∀ i, i < m + 1 → sg9 11 i = sg7 11 i := p4
          replace p5 : y8.toInt = 0 ∨ ringP sg9 z := p5
          have hS9 := hS7.tr p1 (by decide)
          have pre9 : ∀ i, i < m → sg9 11 i = s0 11 i := fun i hi => by
            rw [p4 i (by omega), esg7, up2_is, if_neg (by omega)]; exact hpre i hi
          refine ok_ite (fun c4 => ?_) (fun c4 => ?_)
          · exact go sg9 lg10 hS9 pre9
          · replace c4 := i_ne.mp c4
            refine ok_some ⟨hS9, by show 0 ≤ (1 : Int32).toInt; omega, by show (1 : Int32).toInt ≤ 1; omega, pre9, Or.inr ?_⟩
            rcases p5 with w | w
            · omega
            · exact w
      · exact go sg1 lg1 hS hpre
    · replace c1 := i_nle.mp c1
      refine ok_ite (fun c2 => ?_) (fun c2 => ?_)
      · refine ok_gin (by omega) (by omega) ?_
        have g6 := cl_i q0
        refine ok_ite (fun c3 => ?_) (fun c3 => ?_)
        · exact on 1 (by omega) (fun w => absurd w (by decide))
        · refine on 0 (by omega) (fun _ i hi => ?_)
          by_cases w : (i : Int) = v6.toInt
          · rw [show i = v6.toNatClampNeg by omega]; exact c3
          · exact q2 c2 i (by omega)
      · exact on 1 (by omega) (fun w => absurd w (by decide))
  · exact ⟨rfl, rfl, rfl, rfl, rfl, rfl, by show 0 ≤ (0 : Int32).toInt; omega, by show (0 : Int32).toInt ≤ (m : Int); omega, fun _ i hi => by have hi' : (i : Int) < (0 : Int32).toInt := hi; omega⟩
set_option maxHeartbeats 4000000 in
theorem sLX12_closes_49 {s0 : Sg} {l0 : Lg} {rc : Int32 × Int32 × Sg × Lg → Option (Int32 × Sg × Lg)} {v1 v2 v3 v4 : Int32} {m z : Nat} (hI : IM s0 l0) (hm : v1.toInt = (m : Int)) (hm1 : 1 ≤ m) (hm2 : m ≤ 11) (hch : chain s0 m) (h3 : v3 = s0 11 (m - 1)) (v4l : 0 ≤ v4.toInt) (v4h : v4.toInt ≤ 12)
    (hrc : ∀ (sg' : Sg) (lg' : Lg), IM sg' lg' → chain sg' (m + 1) → Ok (PCl sg' lg' (m + 1) z) (rc ((v1 + (1 : Int32)), v2, sg', lg'))) :
    Ok (PCl s0 l0 m z) (LX12_closes_49 rc (v1, v2, v3, v4, s0, l0)) := by
  have k0 : (0 : Int32).toInt = 0 := by decide
  unfold LX12_closes_49
  refine ok_loop (I := fun (z : Int32 × Int32 × Int32 × Int32 × Sg × Lg) => z.1 = v1 ∧ z.2.1 = v2 ∧ z.2.2.1 = v3 ∧ 0 ≤ z.2.2.2.1.toInt ∧ z.2.2.2.1.toInt ≤ 12 ∧ StM MX12_closes s0 l0 z.2.2.2.2.1 z.2.2.2.2.2 ∧ ∀ i, i < m → z.2.2.2.2.1 11 i = s0 11 i) (m := fun (z : Int32 × Int32 × Int32 × Int32 × Sg × Lg) => (13 - z.2.2.2.1.toInt).toNat) _ ?_ ?_ _ ?_
  · intro z hz
    have := hz.2.2.2.1
    show (13 - z.2.2.2.1.toInt).toNat < 10000
    omega
  · intro rec z hz hrec
    obtain ⟨a1, a2, a3, v4, sg, lg⟩ := z
    replace hz : a1 = v1 ∧ a2 = v2 ∧ a3 = v3 ∧ 0 ≤ v4.toInt ∧ v4.toInt ≤ 12 ∧ StM MX12_closes s0 l0 sg lg ∧ ∀ i, i < m → sg 11 i = s0 11 i := hz
    obtain ⟨e1, e2, e3, q0, q1, q2, q3⟩ := hz
    subst e1 e2 e3
    show Ok _ (fX12_closes_49 rc rec a1 a2 a3 v4 sg lg)
    unfold fX12_closes_49
    refine bnd3_of hens_is ?_
    have hy := rdM1_0 q2.1
    refine ok_ite (fun c => ?_) (fun c => ?_)
    · exact ok_some ⟨q2, by show 0 ≤ (0 : Int32).toInt; omega, by show (0 : Int32).toInt ≤ 1; omega, q3, Or.inl k0⟩
    · replace c := i_nle.mp c
      exact sLX12_closes_64 hm hm1 hm2 q2 q3 hch h3 q0 (by omega) (fun x sg' lg' w1 w2 w3 => hrec (a1, a2, a3, x, sg', lg') ⟨rfl, rfl, rfl, by show 0 ≤ x.toInt; omega, by show x.toInt ≤ 12; omega, w1, w2⟩ (show (13 - x.toInt).toNat < (13 - v4.toInt).toNat by omega)) hrc
  · exact ⟨rfl, rfl, rfl, v4l, v4h, StM.rf hI, fun _ _ => rfl⟩
set_option maxHeartbeats 4000000 in
theorem k_closes {v2 : Int32} {z : Nat} (hz : v2.toInt = (z : Int)) (hz2 : z ≤ 12) : ∀ (n : Nat) (v1 : Int32) (m : Nat) (sg : Sg) (lg : Lg), v1.toInt = (m : Int) → 1 ≤ m → m ≤ z → 12 - m < n → IM sg lg → chain sg m → Ok (PCl sg lg m z) (itr (fun rc z => bX12_closes rc z.1 z.2.1 z.2.2.1 z.2.2.2) n (v1, v2, sg, lg))
  | 0, _, _, _, _, _, _, _, h, _, _ => absurd h (Nat.not_lt_zero _)
  | n + 1, v1, m, sg, lg, hm, hm1, hmz, hn, hI, hch => by
    have k0 : (0 : Int32).toInt = 0 := by decide
    have k1 : (1 : Int32).toInt = 1 := by decide
    have z0 : (0 : Int32).toNatClampNeg = 0 := by decide
    have ih := k_closes hz hz2 n
    show Ok (PCl sg lg m z) (bX12_closes (itr (fun rc z => bX12_closes rc z.1 z.2.1 z.2.2.1 z.2.2.2) n) v1 v2 sg lg)
    generalize itr (fun rc z => bX12_closes rc z.1 z.2.1 z.2.2.1 z.2.2.2) n = rc at ih ⊢
    unfold bX12_closes
    refine ok_lt (fun x1 ex1 => ?_)
    replace ex1 : x1.toInt = v1.toInt - 1 := by rw [ex1]; exact sub_c 1 k1 (by omega) (by omega)
    have g1 := cl_i (i := x1) (by omega)
    have g1' : x1.toNatClampNeg = m - 1 := by omega
    refine ok_gin (by omega) (by omega) ?_
    refine ok_lt (fun x3 ex3 => ?_)
    rw [g1'] at ex3
    have r3 := rdM11 hI (j := m - 1)
    rw [← ex3] at r3
    have r0 := rdM11 hI (j := 0)
    rw [z0]
    refine ok_ite (fun c => ?_) (fun c => ?_)
    · replace c := i_eq.mp c
      have f1 := mul_l (a := (12 : Int32)) (b := x3) 12 (by decide) (by omega) (by omega)
      have f2 := add_i (a := (12 : Int32) * x3) (b := sg 11 0) (by omega) (by omega)
      have g2 := cl_i (i := (12 : Int32) * x3 + sg 11 0) (by omega)
      have g3 := cl_i (i := x3) (by omega)
      have g4 := cl_i (i := sg 11 0) (by omega)
      refine ok_gin (by omega) (by omega) ?_
      refine ok_lt (fun x8 ex8 => ?_)
      rw [ex8]
      refine ok_gin (by omega) (by omega) ?_
      refine ok_ite (fun c2 => ?_) (fun c2 => ?_)
      · exact ok_some ⟨StM.rf hI, by show 0 ≤ (0 : Int32).toInt; omega, by show (0 : Int32).toInt ≤ 1; omega, fun _ _ => rfl, Or.inl k0⟩
      · replace c2 := i_nle.mp c2
        have emz : m = z := by omega
        refine ok_some ⟨StM.rf hI, by show 0 ≤ (1 : Int32).toInt; omega, by show (1 : Int32).toInt ≤ 1; omega, fun _ _ => rfl, Or.inr ⟨by rw [← emz]; exact hch, ?_⟩⟩
        show 0 < (sg 10 (12 * (sg 11 (z - 1)).toNatClampNeg + (sg 11 0).toNatClampNeg)).toInt
        rw [← emz, ← ex3, show 12 * x3.toNatClampNeg + (sg 11 0).toNatClampNeg = ((12 : Int32) * x3 + sg 11 0).toNatClampNeg by omega]
        omega
    · replace c := i_ne.mp c
      refine ok_gin (by omega) (by omega) ?_
      refine ok_lt (fun x6 ex6 => ?_)
      replace ex6 : x6.toInt = (sg 11 0).toInt + 1 := by rw [ex6]; exact add_c 1 k1 (by omega) (by omega)
      refine sLX12_closes_49 hI hm hm1 (by omega) hch ex3 (by omega) (by omega) (fun sg' lg' w1 w2 => ?_)
      exact ih (v1 + (1 : Int32)) (m + 1) sg' lg' (by rw [add_c 1 k1 (by omega) (by omega)]; omega) (by omega) (by omega) (by omega) w1 w2
theorem sX12_closes {v1 v2 : Int32} {m z : Nat} {sg : Sg} {lg : Lg} (hz : v2.toInt = (z : Int)) (hz2 : z ≤ 12) (hm : v1.toInt = (m : Int)) (hm1 : 1 ≤ m) (hmz : m ≤ z) (hI : IM sg lg) (hch : chain sg m) : Ok (PCl sg lg m z) (fX12_closes v1 v2 sg lg) := by
  unfold fX12_closes
  exact k_closes hz hz2 20 v1 m sg lg hm hm1 hmz (by omega) hI hch
def PRn (s0 : Sg) (l0 : Lg) : Int32 × Sg × Lg → Prop := fun r => StM MX12_ringNext s0 l0 r.2.1 r.2.2 ∧ (r.1.toInt = 0 ∨ (2 ≤ r.1.toInt ∧ r.1.toInt ≤ 12 ∧ ringP r.2.1 r.1.toInt.toNat))
set_option maxHeartbeats 4000000 in
theorem sLX12_ringNext_12 {s0 : Sg} {l0 : Lg} {r2 : (Int32 × Sg × Lg) → Option (Int32 × Sg × Lg)} {v1 v2 : Int32} {sg : Sg} {lg : Lg} (hS : StM MX12_ringNext s0 l0 sg lg) (v1l : 2 ≤ v1.toInt) (v1h : v1.toInt ≤ 12) (v2l : 0 ≤ v2.toInt) (v2h : v2.toInt ≤ 12) (hr2 : ∀ (x : Int32) (sg' : Sg) (lg' : Lg), StM MX12_ringNext s0 l0 sg' lg' → x.toInt = v1.toInt + 1 → Ok (PRn s0 l0) (r2 (x, sg', lg'))) : Ok (PRn s0 l0) (LX12_ringNext_12 r2 (v1, v2, sg, lg)) := by
  have k1 : (1 : Int32).toInt = 1 := by decide
  have z0 : (0 : Int32).toNatClampNeg = 0 := by decide
  unfold LX12_ringNext_12
  refine ok_loop (I := fun (z : Int32 × Int32 × Sg × Lg) => z.1 = v1 ∧ 0 ≤ z.2.1.toInt ∧ z.2.1.toInt ≤ 12 ∧ StM MX12_ringNext s0 l0 z.2.2.1 z.2.2.2) (m := fun (z : Int32 × Int32 × Sg × Lg) => (13 - z.2.1.toInt).toNat) _ ?_ ?_ _ ?_
  · intro z hz
    have := hz.2.1
    show (13 - z.2.1.toInt).toNat < 10000
    omega
  · intro rec z hz hrec
    obtain ⟨a1, v2, sg, lg⟩ := z
    replace hz : a1 = v1 ∧ 0 ≤ v2.toInt ∧ v2.toInt ≤ 12 ∧ StM MX12_ringNext s0 l0 sg lg := hz
    obtain ⟨e1, q0, q1, q2⟩ := hz
    subst e1
    show Ok _ (fX12_ringNext_12 r2 rec a1 v2 sg lg)
    unfold fX12_ringNext_12
    refine bnd3_of hens_is ?_
    have hy := rdM1_0 q2.1
    refine ok_ite (fun c => ?_) (fun c => ?_)
    · refine ok_lt (fun x ex => ?_)
      replace ex : x.toInt = a1.toInt + 1 := by rw [ex]; exact add_c 1 k1 (by omega) (by omega)
      exact hr2 x sg lg q2 ex
    · replace c := i_nle.mp c
      refine ok_gin (by decide) (by decide) ?_
      refine ok_lt (fun sg8 e8 => ?_)
      have hS8 := upM11 q2 (by decide) e8 (by omega) (by omega)
      refine ok_bnd3 (sX12_closes (v1 := (1 : Int32)) (v2 := a1) (m := 1) (z := a1.toInt.toNat) (by omega) (by omega) k1 (by decide) (by omega) hS8.1 ⟨fun i hi => by omega, fun i j hi hj => by omega⟩) (fun y9 sg10 lg11 hq => ?_)
      obtain ⟨p1, p2, p3, p4, p5⟩ := hq
      replace p1 : StM MX12_closes sg8 lg sg10 lg11 := p1
      replace p5 : y9.toInt = 0 ∨ ringP sg10 a1.toInt.toNat := p5
      have hS10 := hS8.tr p1 (by decide)
      refine ok_ite (fun c2 => ?_) (fun c2 => ?_)
      · refine ok_lt (fun x ex => ?_)
        replace ex : x.toInt = v2.toInt + 1 := by rw [ex]; exact add_c 1 k1 (by omega) (by omega)
        exact hrec (a1, x, sg10, lg11) ⟨rfl, by show 0 ≤ x.toInt; omega, by show x.toInt ≤ 12; omega, hS10⟩ (show (13 - x.toInt).toNat < (13 - v2.toInt).toNat by omega)
      · replace c2 := i_ne.mp c2
        have k0 : (0 : Int32).toInt = 0 := by decide
        refine ok_some ⟨hS10, Or.inr ⟨v1l, v1h, ?_⟩⟩
        rcases p5 with w | w
        · omega
        · exact w
  · exact ⟨rfl, v2l, v2h, hS⟩
set_option maxHeartbeats 4000000 in
theorem sX12_ringNext {sg : Sg} {lg : Lg} (hI : IM sg lg) : Ok (PRn sg lg) (fX12_ringNext sg lg) := by
  have k0 : (0 : Int32).toInt = 0 := by decide
  have k2 : (2 : Int32).toInt = 2 := by decide
  unfold fX12_ringNext LX12_ringNext_2
  refine ok_loop (I := fun (z : Int32 × Sg × Lg) => 2 ≤ z.1.toInt ∧ z.1.toInt ≤ 13 ∧ StM MX12_ringNext sg lg z.2.1 z.2.2) (m := fun (z : Int32 × Sg × Lg) => (14 - z.1.toInt).toNat) _ ?_ ?_ _ ?_
  · intro z hz
    have := hz.1
    show (14 - z.1.toInt).toNat < 10000
    omega
  · intro rec z hz hrec
    obtain ⟨v1, s, l⟩ := z
    replace hz : 2 ≤ v1.toInt ∧ v1.toInt ≤ 13 ∧ StM MX12_ringNext sg lg s l := hz
    obtain ⟨q0, q1, q2⟩ := hz
    show Ok _ (fX12_ringNext_2 rec v1 s l)
    unfold fX12_ringNext_2
    refine bnd3_of hens_is ?_
    have hy := rdM1_0 q2.1
    refine ok_ite (fun c => ?_) (fun c => ?_)
    · exact ok_some ⟨q2, Or.inl k0⟩
    · replace c := i_nlt.mp c
      exact sLX12_ringNext_12 q2 q0 (by omega) (by omega) (by omega) (fun x sg' lg' w1 w2 => hrec (x, sg', lg') ⟨by show 2 ≤ x.toInt; omega, by show x.toInt ≤ 13; omega, w1⟩ (show (14 - x.toInt).toNat < (14 - v1.toInt).toNat by omega))
  · exact ⟨by show 2 ≤ (2 : Int32).toInt; omega, by show (2 : Int32).toInt ≤ 13; omega, StM.rf hI⟩
