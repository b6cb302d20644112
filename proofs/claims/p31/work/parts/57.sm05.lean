set_option maxHeartbeats 4000000 in
theorem sX12_grows_5 {s0 : Sg} {l0 : Lg} {r5 : (Int32 × Int32 × Int32 × Int32 × Sg × Lg) → Option (Int32 × Sg × Lg)} {v1 : Int32} {v2 : Int32} {v3 : Int32} {v4 : Int32} {sg : Sg} {lg : Lg} (hS : StM MX12_grows s0 l0 sg lg) (v1l : 0 ≤ v1.toInt) (v1h : v1.toInt ≤ 11) (v2l : 0 ≤ v2.toInt) (v2h : v2.toInt ≤ 11) (v3l : 0 ≤ v3.toInt) (v3h : v3.toInt ≤ 1) (v4l : 0 ≤ v4.toInt) (v4h : v4.toInt ≤ 12) (xz : zr sg ≤ zr s0 ∧ (v3.toInt = 0 ∨ zr sg < zr s0)) (hr5 : ∀ (v1' : Int32) (v2' : Int32) (v3' : Int32) (v4' : Int32) (sg' : Sg) (lg' : Lg), StM MX12_grows s0 l0 sg' lg' → 0 ≤ v1'.toInt → v1'.toInt ≤ 11 → 0 ≤ v2'.toInt → v2'.toInt ≤ 11 → 0 ≤ v3'.toInt → v3'.toInt ≤ 1 → 0 ≤ v4'.toInt → v4'.toInt ≤ 12 → (zr sg' ≤ zr s0 ∧ (v3'.toInt = 0 ∨ zr sg' < zr s0)) → v4.toInt < v4'.toInt → Ok (PIXM MX12_grows s0 l0 0 1 (fun (y : Int) (r : Sg) => zr r ≤ zr s0 ∧ (y = 0 ∨ zr r < zr s0))) (r5 (v1', v2', v3', v4', sg', lg'))) : Ok (PIXM MX12_grows s0 l0 0 1 (fun (y : Int) (r : Sg) => zr r ≤ zr s0 ∧ (y = 0 ∨ zr r < zr s0))) (fX12_grows_5 r5 v1 v2 v3 v4 sg lg) := by
  unfold fX12_grows_5
  refine bnd3_puM (sX12_hens  hS.1) (fun y1 qy1 zy1 => ?_)
  refine ok_ite (fun c1 => ?_) (fun c1 => ?_)
  · replace c1 := i_le.mp c1
    refine ok_gz (by omega) (by omega) ?_
    exact ok_some (mkPIXM hS (by omega) (by omega) (show zr sg ≤ zr s0 ∧ (v3.toInt = 0 ∨ zr sg < zr s0) by omega))
  · replace c1 := i_nle.mp c1
    have k2 : (0 : Int32).toInt = 0 := by decide
    exact sLX12_grows_17 hS (by omega) (by omega) (by omega) (by omega) (by omega) (by omega) (by omega) (by omega) (by omega) (by omega) (by omega) hr5
set_option maxHeartbeats 4000000 in
theorem sLX12_grows_5 {s0 : Sg} {l0 : Lg} {v1 : Int32} {v2 : Int32} {v3 : Int32} {v4 : Int32} {sg : Sg} {lg : Lg} (hS : StM MX12_grows s0 l0 sg lg) (v1l : 0 ≤ v1.toInt) (v1h : v1.toInt ≤ 11) (v2l : 0 ≤ v2.toInt) (v2h : v2.toInt ≤ 11) (v3l : 0 ≤ v3.toInt) (v3h : v3.toInt ≤ 1) (v4l : 0 ≤ v4.toInt) (v4h : v4.toInt ≤ 12) (xz : (zr sg ≤ zr s0 ∧ (v3.toInt = 0 ∨ zr sg < zr s0))) : Ok (PIXM MX12_grows s0 l0 0 1 (fun (y : Int) (r : Sg) => zr r ≤ zr s0 ∧ (y = 0 ∨ zr r < zr s0))) (LX12_grows_5 (v1, v2, v3, v4, sg, lg)) := by
  unfold LX12_grows_5
  refine ok_loop (I := fun (z : Int32 × Int32 × Int32 × Int32 × Sg × Lg) => StM MX12_grows s0 l0 z.2.2.2.2.1 z.2.2.2.2.2 ∧ 0 ≤ z.1.toInt ∧ z.1.toInt ≤ 11 ∧ 0 ≤ z.2.1.toInt ∧ z.2.1.toInt ≤ 11 ∧ 0 ≤ z.2.2.1.toInt ∧ z.2.2.1.toInt ≤ 1 ∧ 0 ≤ z.2.2.2.1.toInt ∧ z.2.2.2.1.toInt ≤ 12 ∧ (zr z.2.2.2.2.1 ≤ zr s0 ∧ (z.2.2.1.toInt = 0 ∨ zr z.2.2.2.2.1 < zr s0))) (m := fun (z : Int32 × Int32 × Int32 × Int32 × Sg × Lg) => (13 - z.2.2.2.1.toInt).toNat) _ ?_ ?_ _ ?_
  · intro z hz
    obtain ⟨h0, h1, h2, h3, h4, h5, h6, h7, h8, h9⟩ := hz
    show (13 - z.2.2.2.1.toInt).toNat < 10000
    omega
  · intro rec z hz hrec
    obtain ⟨v1, v2, v3, v4, sg, lg⟩ := z
    replace hz : StM MX12_grows s0 l0 sg lg ∧ 0 ≤ v1.toInt ∧ v1.toInt ≤ 11 ∧ 0 ≤ v2.toInt ∧ v2.toInt ≤ 11 ∧ 0 ≤ v3.toInt ∧ v3.toInt ≤ 1 ∧ 0 ≤ v4.toInt ∧ v4.toInt ≤ 12 ∧ (zr sg ≤ zr s0 ∧ (v3.toInt = 0 ∨ zr sg < zr s0)) := hz
    obtain ⟨h0, h1, h2, h3, h4, h5, h6, h7, h8, h9⟩ := hz
    show Ok (PIXM MX12_grows s0 l0 0 1 (fun (y : Int) (r : Sg) => zr r ≤ zr s0 ∧ (y = 0 ∨ zr r < zr s0))) (fX12_grows_5 rec v1 v2 v3 v4 sg lg)
    exact sX12_grows_5 h0 h1 h2 h3 h4 h5 h6 h7 h8 h9 (fun v1' v2' v3' v4' sg' lg' g0 g1 g2 g3 g4 g5 g6 g7 g8 g9 g10 => hrec (v1', v2', v3', v4', sg', lg') ⟨g0, g1, g2, g3, g4, g5, g6, g7, g8, g9⟩ (show (13 - v4'.toInt).toNat < (13 - v4.toInt).toNat by omega))
  · exact ⟨hS, v1l, v1h, v2l, v2h, v3l, v3h, v4l, v4h, xz⟩
set_option maxHeartbeats 4000000 in
theorem sX12_grows {v1 : Int32} {v2 : Int32} {sg : Sg} {lg : Lg} (hI : IM sg lg) (v1l : 0 ≤ v1.toInt) (v1h : v1.toInt ≤ 11) (v2l : 0 ≤ v2.toInt) (v2h : v2.toInt ≤ 11) : Ok (PIXM MX12_grows sg lg 0 1 (fun (y : Int) (r : Sg) => zr r ≤ zr sg ∧ (y = 0 ∨ zr r < zr sg))) (fX12_grows v1 v2 sg lg) := by
  have hS : StM MX12_grows sg lg sg lg := StM.rf hI
  unfold fX12_grows
  have k1 : (0 : Int32).toInt = 0 := by decide
  exact sLX12_grows_5 hS (by omega) (by omega) (by omega) (by omega) (by omega) (by omega) (by omega) (by omega) (by omega)
set_option maxHeartbeats 4000000 in
theorem sX12_findAll_53 {Z0 : Int} {s0 : Sg} {l0 : Lg} {r2 : (Int32 × Sg × Lg) → Option (Sg × Lg)} {r10 : (Int32 × Int32 × Sg × Lg) → Option (Sg × Lg)} {r20 : (Int32 × Int32 × Int32 × Sg × Lg) → Option (Sg × Lg)} {v1 : Int32} {v2 : Int32} {v3 : Int32} {sg : Sg} {lg : Lg} (hS : StM MX12_findAll s0 l0 sg lg) (v1l : 0 ≤ v1.toInt) (v1h : v1.toInt ≤ 1) (v2l : 0 ≤ v2.toInt) (v2h : v2.toInt ≤ 11) (v3l : 0 ≤ v3.toInt) (v3h : v3.toInt ≤ 11) (xz : 2 * zr sg + 1 ≤ Z0 ∧ (v1.toInt = 0 ∨ 2 * zr sg + 1 < Z0)) (hr2 : ∀ (v1' : Int32) (sg' : Sg) (lg' : Lg), StM MX12_findAll s0 l0 sg' lg' → 0 ≤ v1'.toInt → v1'.toInt ≤ 1 → 2 * zr sg' + v1'.toInt < Z0 → Ok (PVM MX12_findAll s0 l0) (r2 (v1', sg', lg'))) (hr10 : ∀ (v1' : Int32) (v2' : Int32) (sg' : Sg) (lg' : Lg), StM MX12_findAll s0 l0 sg' lg' → 0 ≤ v1'.toInt → v1'.toInt ≤ 1 → 0 ≤ v2'.toInt → v2'.toInt ≤ 12 → (2 * zr sg' + 1 ≤ Z0 ∧ (v1'.toInt = 0 ∨ 2 * zr sg' + 1 < Z0)) → (∀ (v1'' : Int32) (sg'' : Sg) (lg'' : Lg), StM MX12_findAll s0 l0 sg'' lg'' → 0 ≤ v1''.toInt → v1''.toInt ≤ 1 → 2 * zr sg'' + v1''.toInt < Z0 → Ok (PVM MX12_findAll s0 l0) (r2 (v1'', sg'', lg''))) → v2.toInt < v2'.toInt → Ok (PVM MX12_findAll s0 l0) (r10 (v1', v2', sg', lg'))) (hr20 : ∀ (v1' : Int32) (v2' : Int32) (v3' : Int32) (sg' : Sg) (lg' : Lg), StM MX12_findAll s0 l0 sg' lg' → 0 ≤ v1'.toInt → v1'.toInt ≤ 1 → 0 ≤ v2'.toInt → v2'.toInt ≤ 11 → 0 ≤ v3'.toInt → v3'.toInt ≤ 12 → (2 * zr sg' + 1 ≤ Z0 ∧ (v1'.toInt = 0 ∨ 2 * zr sg' + 1 < Z0)) → (∀ (v1'' : Int32) (sg'' : Sg) (lg'' : Lg), StM MX12_findAll s0 l0 sg'' lg'' → 0 ≤ v1''.toInt → v1''.toInt ≤ 1 → 2 * zr sg'' + v1''.toInt < Z0 → Ok (PVM MX12_findAll s0 l0) (r2 (v1'', sg'', lg''))) → (∀ (v1'' : Int32) (v2'' : Int32) (sg'' : Sg) (lg'' : Lg), StM MX12_findAll s0 l0 sg'' lg'' → 0 ≤ v1''.toInt → v1''.toInt ≤ 1 → 0 ≤ v2''.toInt → v2''.toInt ≤ 12 → (2 * zr sg'' + 1 ≤ Z0 ∧ (v1''.toInt = 0 ∨ 2 * zr sg'' + 1 < Z0)) → (∀ (v1''' : Int32) (sg''' : Sg) (lg''' : Lg), StM MX12_findAll s0 l0 sg''' lg''' → 0 ≤ v1'''.toInt → v1'''.toInt ≤ 1 → 2 * zr sg''' + v1'''.toInt < Z0 → Ok (PVM MX12_findAll s0 l0) (r2 (v1''', sg''', lg'''))) → v2'.toInt < v2''.toInt → Ok (PVM MX12_findAll s0 l0) (r10 (v1'', v2'', sg'', lg''))) → v3.toInt < v3'.toInt → Ok (PVM MX12_findAll s0 l0) (r20 (v1', v2', v3', sg', lg'))) : Ok (PVM MX12_findAll s0 l0) (fX12_findAll_53 r2 r10 r20 v1 v2 v3 sg lg) := by
  unfold fX12_findAll_53
  refine ok_lt (fun x1 ex1 => ?_)
  replace ex1 : x1.toInt = v3.toInt + 1 := by rw [ex1]; exact add_c 1 (by decide) (by omega) (by omega)
  exact hr20 v1 v2 x1 sg lg hS (by omega) (by omega) (by omega) (by omega) (by omega) (by omega) (by omega) hr2 hr10 (by omega)
set_option maxHeartbeats 4000000 in
theorem sX12_findAll_20 {Z0 : Int} {s0 : Sg} {l0 : Lg} {r2 : (Int32 × Sg × Lg) → Option (Sg × Lg)} {r10 : (Int32 × Int32 × Sg × Lg) → Option (Sg × Lg)} {r20 : (Int32 × Int32 × Int32 × Sg × Lg) → Option (Sg × Lg)} {v1 : Int32} {v2 : Int32} {v3 : Int32} {sg : Sg} {lg : Lg} (hS : StM MX12_findAll s0 l0 sg lg) (v1l : 0 ≤ v1.toInt) (v1h : v1.toInt ≤ 1) (v2l : 0 ≤ v2.toInt) (v2h : v2.toInt ≤ 11) (v3l : 0 ≤ v3.toInt) (v3h : v3.toInt ≤ 12) (xz : 2 * zr sg + 1 ≤ Z0 ∧ (v1.toInt = 0 ∨ 2 * zr sg + 1 < Z0)) (hr2 : ∀ (v1' : Int32) (sg' : Sg) (lg' : Lg), StM MX12_findAll s0 l0 sg' lg' → 0 ≤ v1'.toInt → v1'.toInt ≤ 1 → 2 * zr sg' + v1'.toInt < Z0 → Ok (PVM MX12_findAll s0 l0) (r2 (v1', sg', lg'))) (hr10 : ∀ (v1' : Int32) (v2' : Int32) (sg' : Sg) (lg' : Lg), StM MX12_findAll s0 l0 sg' lg' → 0 ≤ v1'.toInt → v1'.toInt ≤ 1 → 0 ≤ v2'.toInt → v2'.toInt ≤ 12 → (2 * zr sg' + 1 ≤ Z0 ∧ (v1'.toInt = 0 ∨ 2 * zr sg' + 1 < Z0)) → (∀ (v1'' : Int32) (sg'' : Sg) (lg'' : Lg), StM MX12_findAll s0 l0 sg'' lg'' → 0 ≤ v1''.toInt → v1''.toInt ≤ 1 → 2 * zr sg'' + v1''.toInt < Z0 → Ok (PVM MX12_findAll s0 l0) (r2 (v1'', sg'', lg''))) → v2.toInt < v2'.toInt → Ok (PVM MX12_findAll s0 l0) (r10 (v1', v2', sg', lg'))) (hr20 : ∀ (v1' : Int32) (v2' : Int32) (v3' : Int32) (sg' : Sg) (lg' : Lg), StM MX12_findAll s0 l0 sg' lg' → 0 ≤ v1'.toInt → v1'.toInt ≤ 1 → 0 ≤ v2'.toInt → v2'.toInt ≤ 11 → 0 ≤ v3'.toInt → v3'.toInt ≤ 12 → (2 * zr sg' + 1 ≤ Z0 ∧ (v1'.toInt = 0 ∨ 2 * zr sg' + 1 < Z0)) → (∀ (v1'' : Int32) (sg'' : Sg) (lg'' : Lg), StM MX12_findAll s0 l0 sg'' lg'' → 0 ≤ v1''.toInt → v1''.toInt ≤ 1 → 2 * zr sg'' + v1''.toInt < Z0 → Ok (PVM MX12_findAll s0 l0) (r2 (v1'', sg'', lg''))) → (∀ (v1'' : Int32) (v2'' : Int32) (sg'' : Sg) (lg'' : Lg), StM MX12_findAll s0 l0 sg'' lg'' → 0 ≤ v1''.toInt → v1''.toInt ≤ 1 → 0 ≤ v2''.toInt → v2''.toInt ≤ 12 → (2 * zr sg'' + 1 ≤ Z0 ∧ (v1''.toInt = 0 ∨ 2 * zr sg'' + 1 < Z0)) → (∀ (v1''' : Int32) (sg''' : Sg) (lg''' : Lg), StM MX12_findAll s0 l0 sg''' lg''' → 0 ≤ v1'''.toInt → v1'''.toInt ≤ 1 → 2 * zr sg''' + v1'''.toInt < Z0 → Ok (PVM MX12_findAll s0 l0) (r2 (v1''', sg''', lg'''))) → v2'.toInt < v2''.toInt → Ok (PVM MX12_findAll s0 l0) (r10 (v1'', v2'', sg'', lg''))) → v3.toInt < v3'.toInt → Ok (PVM MX12_findAll s0 l0) (r20 (v1', v2', v3', sg', lg'))) : Ok (PVM MX12_findAll s0 l0) (fX12_findAll_20 r2 r10 r20 v1 v2 v3 sg lg) := by
  unfold fX12_findAll_20
  refine bnd3_puM (sX12_hens  hS.1) (fun y1 qy1 zy1 => ?_)
  refine ok_ite (fun c1 => ?_) (fun c1 => ?_)
  · replace c1 := i_le.mp c1
    refine ok_lt (fun x6 ex6 => ?_)
    replace ex6 : x6.toInt = v2.toInt + 1 := by rw [ex6]; exact add_c 1 (by decide) (by omega) (by omega)
    exact hr10 v1 x6 sg lg hS (by omega) (by omega) (by omega) (by omega) (by omega) hr2 (by omega)
  · replace c1 := i_nle.mp c1
    have k2 : (12 : Int32).toInt = 12 := by decide
    have f3 := mul_l (a := (12 : Int32)) (b := v2) 12 (by decide) (by omega) (by omega)
    have f4 := add_i (a := ((12 : Int32) * v2)) (b := v3) (by omega) (by omega)
    refine ok_lt (fun x7 ex7 => ?_)
    replace ex7 := congrArg Int32.toInt ex7
    refine ok_gin (by omega) (by omega) ?_
    refine ok_ite (fun c5 => ?_) (fun c5 => ?_)
    · have f6 := rdM6 hS.1 (j := x7.toNatClampNeg)
      have k7 : (0 : Int32).toInt = 0 := by decide
      replace c5 := i_eq.mp c5
      exact sX12_findAll_53 hS (by omega) (by omega) (by omega) (by omega) (by omega) (by omega) (by omega) hr2 hr10 hr20
    · have f8 := rdM6 hS.1 (j := x7.toNatClampNeg)
      have k9 : (0 : Int32).toInt = 0 := by decide
      replace c5 := i_ne.mp c5
      refine bnd3_pixM (sX12_grows (v1 := v2) (v2 := v3) hS.1 (by omega) (by omega) (by omega) (by omega)) (fun y10 sg11 lg12 hsg11 qy10 zy10 xy10 => ?_)
      replace xy10 : zr sg11 ≤ zr sg ∧ (y10.toInt = 0 ∨ zr sg11 < zr sg) := xy10
      have hS10 := hS.tr hsg11 (by decide)
      refine ok_ite (fun c11 => ?_) (fun c11 => ?_)
      · replace c11 := i_eq.mp c11
        exact sX12_findAll_53 hS10 (by omega) (by omega) (by omega) (by omega) (by omega) (by omega) (by omega) hr2 hr10 hr20
      · replace c11 := i_ne.mp c11
        have k12 : (1 : Int32).toInt = 1 := by decide
        exact sX12_findAll_53 hS10 (by omega) (by omega) (by omega) (by omega) (by omega) (by omega) (by omega) hr2 hr10 hr20
set_option maxHeartbeats 4000000 in
theorem sLX12_findAll_20 {Z0 : Int} {s0 : Sg} {l0 : Lg} {r2 : (Int32 × Sg × Lg) → Option (Sg × Lg)} {r10 : (Int32 × Int32 × Sg × Lg) → Option (Sg × Lg)} {v1 : Int32} {v2 : Int32} {v3 : Int32} {sg : Sg} {lg : Lg} (hS : StM MX12_findAll s0 l0 sg lg) (v1l : 0 ≤ v1.toInt) (v1h : v1.toInt ≤ 1) (v2l : 0 ≤ v2.toInt) (v2h : v2.toInt ≤ 11) (v3l : 0 ≤ v3.toInt) (v3h : v3.toInt ≤ 12) (xz : (2 * zr sg + 1 ≤ Z0 ∧ (v1.toInt = 0 ∨ 2 * zr sg + 1 < Z0))) (hr2 : ∀ (v1' : Int32) (sg' : Sg) (lg' : Lg), StM MX12_findAll s0 l0 sg' lg' → 0 ≤ v1'.toInt → v1'.toInt ≤ 1 → 2 * zr sg' + v1'.toInt < Z0 → Ok (PVM MX12_findAll s0 l0) (r2 (v1', sg', lg'))) (hr10 : ∀ (v1' : Int32) (v2' : Int32) (sg' : Sg) (lg' : Lg), StM MX12_findAll s0 l0 sg' lg' → 0 ≤ v1'.toInt → v1'.toInt ≤ 1 → 0 ≤ v2'.toInt → v2'.toInt ≤ 12 → (2 * zr sg' + 1 ≤ Z0 ∧ (v1'.toInt = 0 ∨ 2 * zr sg' + 1 < Z0)) → (∀ (v1'' : Int32) (sg'' : Sg) (lg'' : Lg), StM MX12_findAll s0 l0 sg'' lg'' → 0 ≤ v1''.toInt → v1''.toInt ≤ 1 → 2 * zr sg'' + v1''.toInt < Z0 → Ok (PVM MX12_findAll s0 l0) (r2 (v1'', sg'', lg''))) → v2.toInt < v2'.toInt → Ok (PVM MX12_findAll s0 l0) (r10 (v1', v2', sg', lg'))) : Ok (PVM MX12_findAll s0 l0) (LX12_findAll_20 r2 r10 (v1, v2, v3, sg, lg)) := by
  unfold LX12_findAll_20
  refine ok_loop (I := fun (z : Int32 × Int32 × Int32 × Sg × Lg) => StM MX12_findAll s0 l0 z.2.2.2.1 z.2.2.2.2 ∧ 0 ≤ z.1.toInt ∧ z.1.toInt ≤ 1 ∧ 0 ≤ z.2.1.toInt ∧ z.2.1.toInt ≤ 11 ∧ 0 ≤ z.2.2.1.toInt ∧ z.2.2.1.toInt ≤ 12 ∧ (2 * zr z.2.2.2.1 + 1 ≤ Z0 ∧ (z.1.toInt = 0 ∨ 2 * zr z.2.2.2.1 + 1 < Z0)) ∧ (∀ (v1' : Int32) (sg' : Sg) (lg' : Lg), StM MX12_findAll s0 l0 sg' lg' → 0 ≤ v1'.toInt → v1'.toInt ≤ 1 → 2 * zr sg' + v1'.toInt < Z0 → Ok (PVM MX12_findAll s0 l0) (r2 (v1', sg', lg'))) ∧ (∀ (v1' : Int32) (v2' : Int32) (sg' : Sg) (lg' : Lg), StM MX12_findAll s0 l0 sg' lg' → 0 ≤ v1'.toInt → v1'.toInt ≤ 1 → 0 ≤ v2'.toInt → v2'.toInt ≤ 12 → (2 * zr sg' + 1 ≤ Z0 ∧ (v1'.toInt = 0 ∨ 2 * zr sg' + 1 < Z0)) → (∀ (v1'' : Int32) (sg'' : Sg) (lg'' : Lg), StM MX12_findAll s0 l0 sg'' lg'' → 0 ≤ v1''.toInt → v1''.toInt ≤ 1 → 2 * zr sg'' + v1''.toInt < Z0 → Ok (PVM MX12_findAll s0 l0) (r2 (v1'', sg'', lg''))) → z.2.1.toInt < v2'.toInt → Ok (PVM MX12_findAll s0 l0) (r10 (v1', v2', sg', lg')))) (m := fun (z : Int32 × Int32 × Int32 × Sg × Lg) => (13 - z.2.2.1.toInt).toNat) _ ?_ ?_ _ ?_
  · intro z hz
    obtain ⟨h0, h1, h2, h3, h4, h5, h6, h7, h8, h9⟩ := hz
    show (13 - z.2.2.1.toInt).toNat < 10000
    omega
  · intro rec z hz hrec
    obtain ⟨v1, v2, v3, sg, lg⟩ := z
    replace hz : StM MX12_findAll s0 l0 sg lg ∧ 0 ≤ v1.toInt ∧ v1.toInt ≤ 1 ∧ 0 ≤ v2.toInt ∧ v2.toInt ≤ 11 ∧ 0 ≤ v3.toInt ∧ v3.toInt ≤ 12 ∧ (2 * zr sg + 1 ≤ Z0 ∧ (v1.toInt = 0 ∨ 2 * zr sg + 1 < Z0)) ∧ (∀ (v1' : Int32) (sg' : Sg) (lg' : Lg), StM MX12_findAll s0 l0 sg' lg' → 0 ≤ v1'.toInt → v1'.toInt ≤ 1 → 2 * zr sg' + v1'.toInt < Z0 → Ok (PVM MX12_findAll s0 l0) (r2 (v1', sg', lg'))) ∧ (∀ (v1' : Int32) (v2' : Int32) (sg' : Sg) (lg' : Lg), StM MX12_findAll s0 l0 sg' lg' → 0 ≤ v1'.toInt → v1'.toInt ≤ 1 → 0 ≤ v2'.toInt → v2'.toInt ≤ 12 → (2 * zr sg' + 1 ≤ Z0 ∧ (v1'.toInt = 0 ∨ 2 * zr sg' + 1 < Z0)) → (∀ (v1'' : Int32) (sg'' : Sg) (lg'' : Lg), StM MX12_findAll s0 l0 sg'' lg'' → 0 ≤ v1''.toInt → v1''.toInt ≤ 1 → 2 * zr sg'' + v1''.toInt < Z0 → Ok (PVM MX12_findAll s0 l0) (r2 (v1'', sg'', lg''))) → v2.toInt < v2'.toInt → Ok (PVM MX12_findAll s0 l0) (r10 (v1', v2', sg', lg'))) := hz
    obtain ⟨h0, h1, h2, h3, h4, h5, h6, h7, h8, h9⟩ := hz
    show Ok (PVM MX12_findAll s0 l0) (fX12_findAll_20 r2 r10 rec v1 v2 v3 sg lg)
    exact sX12_findAll_20 h0 h1 h2 h3 h4 h5 h6 h7 h8 h9 (fun v1' v2' v3' sg' lg' g0 g1 g2 g3 g4 g5 g6 g7 g8 g9 g10 => hrec (v1', v2', v3', sg', lg') ⟨g0, g1, g2, g3, g4, g5, g6, g7, g8, g9⟩ (show (13 - v3'.toInt).toNat < (13 - v3.toInt).toNat by omega))
  · exact ⟨hS, v1l, v1h, v2l, v2h, v3l, v3h, xz, hr2, hr10⟩
set_option maxHeartbeats 4000000 in
theorem sX12_findAll_10 {Z0 : Int} {s0 : Sg} {l0 : Lg} {r2 : (Int32 × Sg × Lg) → Option (Sg × Lg)} {r10 : (Int32 × Int32 × Sg × Lg) → Option (Sg × Lg)} {v1 : Int32} {v2 : Int32} {sg : Sg} {lg : Lg} (hS : StM MX12_findAll s0 l0 sg lg) (v1l : 0 ≤ v1.toInt) (v1h : v1.toInt ≤ 1) (v2l : 0 ≤ v2.toInt) (v2h : v2.toInt ≤ 12) (xz : 2 * zr sg + 1 ≤ Z0 ∧ (v1.toInt = 0 ∨ 2 * zr sg + 1 < Z0)) (hr2 : ∀ (v1' : Int32) (sg' : Sg) (lg' : Lg), StM MX12_findAll s0 l0 sg' lg' → 0 ≤ v1'.toInt → v1'.toInt ≤ 1 → 2 * zr sg' + v1'.toInt < Z0 → Ok (PVM MX12_findAll s0 l0) (r2 (v1', sg', lg'))) (hr10 : ∀ (v1' : Int32) (v2' : Int32) (sg' : Sg) (lg' : Lg), StM MX12_findAll s0 l0 sg' lg' → 0 ≤ v1'.toInt → v1'.toInt ≤ 1 → 0 ≤ v2'.toInt → v2'.toInt ≤ 12 → (2 * zr sg' + 1 ≤ Z0 ∧ (v1'.toInt = 0 ∨ 2 * zr sg' + 1 < Z0)) → (∀ (v1'' : Int32) (sg'' : Sg) (lg'' : Lg), StM MX12_findAll s0 l0 sg'' lg'' → 0 ≤ v1''.toInt → v1''.toInt ≤ 1 → 2 * zr sg'' + v1''.toInt < Z0 → Ok (PVM MX12_findAll s0 l0) (r2 (v1'', sg'', lg''))) → v2.toInt < v2'.toInt → Ok (PVM MX12_findAll s0 l0) (r10 (v1', v2', sg', lg'))) : Ok (PVM MX12_findAll s0 l0) (fX12_findAll_10 r2 r10 v1 v2 sg lg) := by
  unfold fX12_findAll_10
  refine bnd3_puM (sX12_hens  hS.1) (fun y1 qy1 zy1 => ?_)
  refine ok_ite (fun c1 => ?_) (fun c1 => ?_)
  · replace c1 := i_le.mp c1
    exact hr2 v1 sg lg hS (by omega) (by omega) (by omega)
  · replace c1 := i_nle.mp c1
    have k2 : (0 : Int32).toInt = 0 := by decide
    exact sLX12_findAll_20 hS (by omega) (by omega) (by omega) (by omega) (by omega) (by omega) (by omega) hr2 hr10
set_option maxHeartbeats 4000000 in
theorem sLX12_findAll_10 {Z0 : Int} {s0 : Sg} {l0 : Lg} {r2 : (Int32 × Sg × Lg) → Option (Sg × Lg)} {v1 : Int32} {v2 : Int32} {sg : Sg} {lg : Lg} (hS : StM MX12_findAll s0 l0 sg lg) (v1l : 0 ≤ v1.toInt) (v1h : v1.toInt ≤ 1) (v2l : 0 ≤ v2.toInt) (v2h : v2.toInt ≤ 12) (xz : (2 * zr sg + 1 ≤ Z0 ∧ (v1.toInt = 0 ∨ 2 * zr sg + 1 < Z0))) (hr2 : ∀ (v1' : Int32) (sg' : Sg) (lg' : Lg), StM MX12_findAll s0 l0 sg' lg' → 0 ≤ v1'.toInt → v1'.toInt ≤ 1 → 2 * zr sg' + v1'.toInt < Z0 → Ok (PVM MX12_findAll s0 l0) (r2 (v1', sg', lg'))) : Ok (PVM MX12_findAll s0 l0) (LX12_findAll_10 r2 (v1, v2, sg, lg)) := by
  unfold LX12_findAll_10
  refine ok_loop (I := fun (z : Int32 × Int32 × Sg × Lg) => StM MX12_findAll s0 l0 z.2.2.1 z.2.2.2 ∧ 0 ≤ z.1.toInt ∧ z.1.toInt ≤ 1 ∧ 0 ≤ z.2.1.toInt ∧ z.2.1.toInt ≤ 12 ∧ (2 * zr z.2.2.1 + 1 ≤ Z0 ∧ (z.1.toInt = 0 ∨ 2 * zr z.2.2.1 + 1 < Z0)) ∧ (∀ (v1' : Int32) (sg' : Sg) (lg' : Lg), StM MX12_findAll s0 l0 sg' lg' → 0 ≤ v1'.toInt → v1'.toInt ≤ 1 → 2 * zr sg' + v1'.toInt < Z0 → Ok (PVM MX12_findAll s0 l0) (r2 (v1', sg', lg')))) (m := fun (z : Int32 × Int32 × Sg × Lg) => (13 - z.2.1.toInt).toNat) _ ?_ ?_ _ ?_
  · intro z hz
    obtain ⟨h0, h1, h2, h3, h4, h5, h6⟩ := hz
    show (13 - z.2.1.toInt).toNat < 10000
    omega
  · intro rec z hz hrec
    obtain ⟨v1, v2, sg, lg⟩ := z
    replace hz : StM MX12_findAll s0 l0 sg lg ∧ 0 ≤ v1.toInt ∧ v1.toInt ≤ 1 ∧ 0 ≤ v2.toInt ∧ v2.toInt ≤ 12 ∧ (2 * zr sg + 1 ≤ Z0 ∧ (v1.toInt = 0 ∨ 2 * zr sg + 1 < Z0)) ∧ (∀ (v1' : Int32) (sg' : Sg) (lg' : Lg), StM MX12_findAll s0 l0 sg' lg' → 0 ≤ v1'.toInt → v1'.toInt ≤ 1 → 2 * zr sg' + v1'.toInt < Z0 → Ok (PVM MX12_findAll s0 l0) (r2 (v1', sg', lg'))) := hz
    obtain ⟨h0, h1, h2, h3, h4, h5, h6⟩ := hz
    show Ok (PVM MX12_findAll s0 l0) (fX12_findAll_10 r2 rec v1 v2 sg lg)
    exact sX12_findAll_10 h0 h1 h2 h3 h4 h5 h6 (fun v1' v2' sg' lg' g0 g1 g2 g3 g4 g5 g6 g7 => hrec (v1', v2', sg', lg') ⟨g0, g1, g2, g3, g4, g5, g6⟩ (show (13 - v2'.toInt).toNat < (13 - v2.toInt).toNat by omega))
  · exact ⟨hS, v1l, v1h, v2l, v2h, xz, hr2⟩
set_option maxHeartbeats 4000000 in
theorem sX12_findAll_2 {Z0 : Int} {s0 : Sg} {l0 : Lg} {r2 : (Int32 × Sg × Lg) → Option (Sg × Lg)} {v1 : Int32} {sg : Sg} {lg : Lg} (hS : StM MX12_findAll s0 l0 sg lg) (v1l : 0 ≤ v1.toInt) (v1h : v1.toInt ≤ 1) (xz : 2 * zr sg + v1.toInt = Z0) (hr2 : ∀ (v1' : Int32) (sg' : Sg) (lg' : Lg), StM MX12_findAll s0 l0 sg' lg' → 0 ≤ v1'.toInt → v1'.toInt ≤ 1 → 2 * zr sg' + v1'.toInt < Z0 → Ok (PVM MX12_findAll s0 l0) (r2 (v1', sg', lg'))) : Ok (PVM MX12_findAll s0 l0) (fX12_findAll_2 r2 v1 sg lg) := by
  unfold fX12_findAll_2
  refine ok_ite (fun c1 => ?_) (fun c1 => ?_)
  · have k2 : (0 : Int32).toInt = 0 := by decide
    replace c1 := i_eq.mp c1
    exact ok_some (mkPVM hS)
  · have k3 : (0 : Int32).toInt = 0 := by decide
    replace c1 := i_ne.mp c1
    exact sLX12_findAll_10 hS (by omega) (by omega) (by omega) (by omega) (by omega) hr2
theorem sLX12_findAll_2 {s0 : Sg} {l0 : Lg} {v1 : Int32} {sg : Sg} {lg : Lg} (hS : StM MX12_findAll s0 l0 sg lg) (v1l : 0 ≤ v1.toInt) (v1h : v1.toInt ≤ 1) : Ok (PVM MX12_findAll s0 l0) (LX12_findAll_2 (v1, sg, lg)) := by
  unfold LX12_findAll_2
  refine ok_loop (I := fun (z : Int32 × Sg × Lg) => StM MX12_findAll s0 l0 z.2.1 z.2.2 ∧ 0 ≤ z.1.toInt ∧ z.1.toInt ≤ 1) (m := fun (z : Int32 × Sg × Lg) => (2 * zr z.2.1 + z.1.toInt).toNat) _ ?_ ?_ _ ?_
  · intro z hz
    obtain ⟨h0, h1, h2⟩ := hz
    have := zr_mx z.2.1
    show (2 * zr z.2.1 + z.1.toInt).toNat < 10000
    omega
  · intro rec z hz hrec
    obtain ⟨v1, sg, lg⟩ := z
    replace hz : StM MX12_findAll s0 l0 sg lg ∧ 0 ≤ v1.toInt ∧ v1.toInt ≤ 1 := hz
    obtain ⟨h0, h1, h2⟩ := hz
    show Ok (PVM MX12_findAll s0 l0) (fX12_findAll_2 rec v1 sg lg)
    exact sX12_findAll_2 (Z0 := 2 * zr sg + v1.toInt) h0 h1 h2 rfl (fun v1' sg' lg' g0 g1 g2 g3 => hrec (v1', sg', lg') ⟨g0, g1, g2⟩ (show (2 * zr sg' + v1'.toInt).toNat < (2 * zr sg + v1.toInt).toNat by have := zr_nn sg'; omega))
  · exact ⟨hS, v1l, v1h⟩
theorem sX12_findAll {sg : Sg} {lg : Lg} (hI : IM sg lg) : Ok (PVM MX12_findAll sg lg) (fX12_findAll sg lg) := by
  have hS : StM MX12_findAll sg lg sg lg := StM.rf hI
  unfold fX12_findAll
  have k1 : (1 : Int32).toInt = 1 := by decide
  exact sLX12_findAll_2 hS (by omega) (by omega)
set_option maxHeartbeats 4000000 in
theorem sX12_why_86 {s0 : Sg} {l0 : Lg} {r86 : (Int32 × Sg × Lg) → Option (Int64 × Sg × Lg)} {v1 : Int32} {sg : Sg} {lg : Lg} (hS : StM MX12_why s0 l0 sg lg) (v1l : 0 ≤ v1.toInt) (v1h : v1.toInt ≤ 12) (hr86 : ∀ (v1' : Int32) (sg' : Sg) (lg' : Lg), StM MX12_why s0 l0 sg' lg' → 0 ≤ v1'.toInt → v1'.toInt ≤ 12 → v1.toInt < v1'.toInt → Ok (PLM MX12_why s0 l0) (r86 (v1', sg', lg'))) : Ok (PLM MX12_why s0 l0) (fX12_why_86 r86 v1 sg lg) := by
  unfold fX12_why_86
  refine bnd3_puM (sX12_hens  hS.1) (fun y1 qy1 zy1 => ?_)
  refine ok_ite (fun c1 => ?_) (fun c1 => ?_)
  · replace c1 := i_le.mp c1
    exact ok_some (mkPLM hS)
  · replace c1 := i_nle.mp c1
    have k2 : (12 : Int32).toInt = 12 := by decide
    have f3 := mul_l (a := (12 : Int32)) (b := v1) 12 (by decide) (by omega) (by omega)
    have f4 := add_i (a := ((12 : Int32) * v1)) (b := v1) (by omega) (by omega)
    refine ok_lt (fun x6 ex6 => ?_)
    replace ex6 := congrArg Int32.toInt ex6
    refine ok_gin (by omega) (by omega) ?_
    refine ok_ite (fun c5 => ?_) (fun c5 => ?_)
    · have f6 := rdM6 hS.1 (j := x6.toNatClampNeg)
      have k7 : (0 : Int32).toInt = 0 := by decide
      replace c5 := i_eq.mp c5
      refine ok_lt (fun x9 ex9 => ?_)
      replace ex9 : x9.toInt = v1.toInt + 1 := by rw [ex9]; exact add_c 1 (by decide) (by omega) (by omega)
      exact hr86 x9 sg lg hS (by omega) (by omega) (by omega)
    · have f8 := rdM6 hS.1 (j := x6.toNatClampNeg)
      have k9 : (0 : Int32).toInt = 0 := by decide
      replace c5 := i_ne.mp c5
      exact ok_some (mkPLM hS)
set_option maxHeartbeats 4000000 in
theorem sLX12_why_86 {s0 : Sg} {l0 : Lg} {v1 : Int32} {sg : Sg} {lg : Lg} (hS : StM MX12_why s0 l0 sg lg) (v1l : 0 ≤ v1.toInt) (v1h : v1.toInt ≤ 12) : Ok (PLM MX12_why s0 l0) (LX12_why_86 (v1, sg, lg)) := by
  unfold LX12_why_86
  refine ok_loop (I := fun (z : Int32 × Sg × Lg) => StM MX12_why s0 l0 z.2.1 z.2.2 ∧ 0 ≤ z.1.toInt ∧ z.1.toInt ≤ 12) (m := fun (z : Int32 × Sg × Lg) => (13 - z.1.toInt).toNat) _ ?_ ?_ _ ?_
  · intro z hz
    obtain ⟨h0, h1, h2⟩ := hz
    show (13 - z.1.toInt).toNat < 10000
    omega
  · intro rec z hz hrec
    obtain ⟨v1, sg, lg⟩ := z
    replace hz : StM MX12_why s0 l0 sg lg ∧ 0 ≤ v1.toInt ∧ v1.toInt ≤ 12 := hz
    obtain ⟨h0, h1, h2⟩ := hz
    show Ok (PLM MX12_why s0 l0) (fX12_why_86 rec v1 sg lg)
    exact sX12_why_86 h0 h1 h2 (fun v1' sg' lg' g0 g1 g2 g3 => hrec (v1', sg', lg') ⟨g0, g1, g2⟩ (show (13 - v1'.toInt).toNat < (13 - v1.toInt).toNat by omega))
  · exact ⟨hS, v1l, v1h⟩
set_option maxHeartbeats 4000000 in
theorem sX12_why_46 {s0 : Sg} {l0 : Lg} {r2 : (Int32 × Sg × Lg) → Option (Int64 × Sg × Lg)} {r14 : (Int32 × Int32 × Int32 × Sg × Lg) → Option (Int64 × Sg × Lg)} {v1 : Int32} {v3 : Int32} {w0 : Int32} {w1 : Int32} {sg : Sg} {lg : Lg} (hS : StM MX12_why s0 l0 sg lg) (v1l : 0 ≤ v1.toInt) (v1h : v1.toInt ≤ 11) (v3l : 0 ≤ v3.toInt) (v3h : v3.toInt ≤ 11) (w0l : 0 ≤ w0.toInt) (w0h : w0.toInt ≤ 1) (hr2 : ∀ (v1' : Int32) (sg' : Sg) (lg' : Lg), StM MX12_why s0 l0 sg' lg' → 0 ≤ v1'.toInt → v1'.toInt ≤ 12 → v1.toInt < v1'.toInt → Ok (PLM MX12_why s0 l0) (r2 (v1', sg', lg'))) (hr14 : ∀ (v1' : Int32) (v2' : Int32) (v3' : Int32) (sg' : Sg) (lg' : Lg), StM MX12_why s0 l0 sg' lg' → 0 ≤ v1'.toInt → v1'.toInt ≤ 11 → 0 ≤ v3'.toInt → v3'.toInt ≤ 12 → (∀ (v1'' : Int32) (sg'' : Sg) (lg'' : Lg), StM MX12_why s0 l0 sg'' lg'' → 0 ≤ v1''.toInt → v1''.toInt ≤ 12 → v1'.toInt < v1''.toInt → Ok (PLM MX12_why s0 l0) (r2 (v1'', sg'', lg''))) → v3.toInt < v3'.toInt → Ok (PLM MX12_why s0 l0) (r14 (v1', v2', v3', sg', lg'))) : Ok (PLM MX12_why s0 l0) (fX12_why_46 r2 r14 v1 v3 w0 w1 sg lg) := by
  unfold fX12_why_46
  refine ok_lt (fun x1 ex1 => ?_)
  replace ex1 := congrArg Int32.toInt ex1
  refine ok_lt (fun x2 ex2 => ?_)
  replace ex2 : x2.toInt = v3.toInt + 1 := by rw [ex2]; exact add_c 1 (by decide) (by omega) (by omega)
  exact hr14 v1 x1 x2 sg lg hS (by omega) (by omega) (by omega) (by omega) hr2 (by omega)
set_option maxHeartbeats 4000000 in
theorem sX12_why_45 {s0 : Sg} {l0 : Lg} {r2 : (Int32 × Sg × Lg) → Option (Int64 × Sg × Lg)} {r14 : (Int32 × Int32 × Int32 × Sg × Lg) → Option (Int64 × Sg × Lg)} {v1 : Int32} {v3 : Int32} {w0 : Int32} {sg : Sg} {lg : Lg} (hS : StM MX12_why s0 l0 sg lg) (v1l : 0 ≤ v1.toInt) (v1h : v1.toInt ≤ 11) (v3l : 0 ≤ v3.toInt) (v3h : v3.toInt ≤ 11) (hr2 : ∀ (v1' : Int32) (sg' : Sg) (lg' : Lg), StM MX12_why s0 l0 sg' lg' → 0 ≤ v1'.toInt → v1'.toInt ≤ 12 → v1.toInt < v1'.toInt → Ok (PLM MX12_why s0 l0) (r2 (v1', sg', lg'))) (hr14 : ∀ (v1' : Int32) (v2' : Int32) (v3' : Int32) (sg' : Sg) (lg' : Lg), StM MX12_why s0 l0 sg' lg' → 0 ≤ v1'.toInt → v1'.toInt ≤ 11 → 0 ≤ v3'.toInt → v3'.toInt ≤ 12 → (∀ (v1'' : Int32) (sg'' : Sg) (lg'' : Lg), StM MX12_why s0 l0 sg'' lg'' → 0 ≤ v1''.toInt → v1''.toInt ≤ 12 → v1'.toInt < v1''.toInt → Ok (PLM MX12_why s0 l0) (r2 (v1'', sg'', lg''))) → v3.toInt < v3'.toInt → Ok (PLM MX12_why s0 l0) (r14 (v1', v2', v3', sg', lg'))) : Ok (PLM MX12_why s0 l0) (fX12_why_45 r2 r14 v1 v3 w0 sg lg) := by
  unfold fX12_why_45
  have k1 : (0 : Int32).toInt = 0 := by decide
  exact sX12_why_46 hS (by omega) (by omega) (by omega) (by omega) (by omega) (by omega) hr2 hr14
set_option maxHeartbeats 4000000 in
theorem sX12_why_14 {s0 : Sg} {l0 : Lg} {r2 : (Int32 × Sg × Lg) → Option (Int64 × Sg × Lg)} {r14 : (Int32 × Int32 × Int32 × Sg × Lg) → Option (Int64 × Sg × Lg)} {v1 : Int32} {v2 : Int32} {v3 : Int32} {sg : Sg} {lg : Lg} (hS : StM MX12_why s0 l0 sg lg) (v1l : 0 ≤ v1.toInt) (v1h : v1.toInt ≤ 11) (v3l : 0 ≤ v3.toInt) (v3h : v3.toInt ≤ 12) (hr2 : ∀ (v1' : Int32) (sg' : Sg) (lg' : Lg), StM MX12_why s0 l0 sg' lg' → 0 ≤ v1'.toInt → v1'.toInt ≤ 12 → v1.toInt < v1'.toInt → Ok (PLM MX12_why s0 l0) (r2 (v1', sg', lg'))) (hr14 : ∀ (v1' : Int32) (v2' : Int32) (v3' : Int32) (sg' : Sg) (lg' : Lg), StM MX12_why s0 l0 sg' lg' → 0 ≤ v1'.toInt → v1'.toInt ≤ 11 → 0 ≤ v3'.toInt → v3'.toInt ≤ 12 → (∀ (v1'' : Int32) (sg'' : Sg) (lg'' : Lg), StM MX12_why s0 l0 sg'' lg'' → 0 ≤ v1''.toInt → v1''.toInt ≤ 12 → v1'.toInt < v1''.toInt → Ok (PLM MX12_why s0 l0) (r2 (v1'', sg'', lg''))) → v3.toInt < v3'.toInt → Ok (PLM MX12_why s0 l0) (r14 (v1', v2', v3', sg', lg'))) : Ok (PLM MX12_why s0 l0) (fX12_why_14 r2 r14 v1 v2 v3 sg lg) := by
  unfold fX12_why_14
  refine bnd3_puM (sX12_hens  hS.1) (fun y1 qy1 zy1 => ?_)
  refine ok_ite (fun c1 => ?_) (fun c1 => ?_)
  · replace c1 := i_le.mp c1
    refine ok_ite (fun c2 => ?_) (fun c2 => ?_)
    · have k3 : (1 : Int32).toInt = 1 := by decide
      replace c2 := i_le.mp c2
      refine ok_lt (fun x7 ex7 => ?_)
      replace ex7 : x7.toInt = v1.toInt + 1 := by rw [ex7]; exact add_c 1 (by decide) (by omega) (by omega)
      exact hr2 x7 sg lg hS (by omega) (by omega) (by omega)
    · have k4 : (1 : Int32).toInt = 1 := by decide
      replace c2 := i_nle.mp c2
      exact ok_some (mkPLM hS)
  · replace c1 := i_nle.mp c1
    refine bnd3_puM (sX12_kind (v1 := v3) hS.1 (by omega) (by omega)) (fun y8 qy8 zy8 => ?_)
    refine ok_ite (fun c5 => ?_) (fun c5 => ?_)
    · have k6 : (3 : Int32).toInt = 3 := by decide
      replace c5 := i_eq.mp c5
      refine bnd3_puM (sX12_askedBy (v1 := v3) hS.1 (by omega) (by omega)) (fun y13 qy13 zy13 => ?_)
      refine ok_ite (fun c7 => ?_) (fun c7 => ?_)
      · replace c7 := i_eq.mp c7
        have k8 : (1 : Int32).toInt = 1 := by decide
        exact sX12_why_46 hS (by omega) (by omega) (by omega) (by omega) (by omega) (by omega) hr2 hr14
      · replace c7 := i_ne.mp c7
        exact sX12_why_45 hS (by omega) (by omega) (by omega) (by omega) hr2 hr14
    · have k9 : (3 : Int32).toInt = 3 := by decide
      replace c5 := i_ne.mp c5
      exact sX12_why_45 hS (by omega) (by omega) (by omega) (by omega) hr2 hr14
set_option maxHeartbeats 4000000 in
theorem sLX12_why_14 {s0 : Sg} {l0 : Lg} {r2 : (Int32 × Sg × Lg) → Option (Int64 × Sg × Lg)} {v1 : Int32} {v2 : Int32} {v3 : Int32} {sg : Sg} {lg : Lg} (hS : StM MX12_why s0 l0 sg lg) (v1l : 0 ≤ v1.toInt) (v1h : v1.toInt ≤ 11) (v3l : 0 ≤ v3.toInt) (v3h : v3.toInt ≤ 12) (hr2 : ∀ (v1' : Int32) (sg' : Sg) (lg' : Lg), StM MX12_why s0 l0 sg' lg' → 0 ≤ v1'.toInt → v1'.toInt ≤ 12 → v1.toInt < v1'.toInt → Ok (PLM MX12_why s0 l0) (r2 (v1', sg', lg'))) : Ok (PLM MX12_why s0 l0) (LX12_why_14 r2 (v1, v2, v3, sg, lg)) := by
  unfold LX12_why_14
  refine ok_loop (I := fun (z : Int32 × Int32 × Int32 × Sg × Lg) => StM MX12_why s0 l0 z.2.2.2.1 z.2.2.2.2 ∧ 0 ≤ z.1.toInt ∧ z.1.toInt ≤ 11 ∧ 0 ≤ z.2.2.1.toInt ∧ z.2.2.1.toInt ≤ 12 ∧ (∀ (v1' : Int32) (sg' : Sg) (lg' : Lg), StM MX12_why s0 l0 sg' lg' → 0 ≤ v1'.toInt → v1'.toInt ≤ 12 → z.1.toInt < v1'.toInt → Ok (PLM MX12_why s0 l0) (r2 (v1', sg', lg')))) (m := fun (z : Int32 × Int32 × Int32 × Sg × Lg) => (13 - z.2.2.1.toInt).toNat) _ ?_ ?_ _ ?_
  · intro z hz
    obtain ⟨h0, h1, h2, h3, h4, h5⟩ := hz
    show (13 - z.2.2.1.toInt).toNat < 10000
    omega
  · intro rec z hz hrec
    obtain ⟨v1, v2, v3, sg, lg⟩ := z
    replace hz : StM MX12_why s0 l0 sg lg ∧ 0 ≤ v1.toInt ∧ v1.toInt ≤ 11 ∧ 0 ≤ v3.toInt ∧ v3.toInt ≤ 12 ∧ (∀ (v1' : Int32) (sg' : Sg) (lg' : Lg), StM MX12_why s0 l0 sg' lg' → 0 ≤ v1'.toInt → v1'.toInt ≤ 12 → v1.toInt < v1'.toInt → Ok (PLM MX12_why s0 l0) (r2 (v1', sg', lg'))) := hz
    obtain ⟨h0, h1, h2, h3, h4, h5⟩ := hz
    show Ok (PLM MX12_why s0 l0) (fX12_why_14 r2 rec v1 v2 v3 sg lg)
    exact sX12_why_14 h0 h1 h2 h3 h4 h5 (fun v1' v2' v3' sg' lg' g0 g1 g2 g3 g4 g5 g6 => hrec (v1', v2', v3', sg', lg') ⟨g0, g1, g2, g3, g4, g5⟩ (show (13 - v3'.toInt).toNat < (13 - v3.toInt).toNat by omega))
  · exact ⟨hS, v1l, v1h, v3l, v3h, hr2⟩
set_option maxHeartbeats 4000000 in
theorem sX12_why_2 {s0 : Sg} {l0 : Lg} {r2 : (Int32 × Sg × Lg) → Option (Int64 × Sg × Lg)} {v1 : Int32} {sg : Sg} {lg : Lg} (hS : StM MX12_why s0 l0 sg lg) (v1l : 0 ≤ v1.toInt) (v1h : v1.toInt ≤ 12) (hr2 : ∀ (v1' : Int32) (sg' : Sg) (lg' : Lg), StM MX12_why s0 l0 sg' lg' → 0 ≤ v1'.toInt → v1'.toInt ≤ 12 → v1.toInt < v1'.toInt → Ok (PLM MX12_why s0 l0) (r2 (v1', sg', lg'))) : Ok (PLM MX12_why s0 l0) (fX12_why_2 r2 v1 sg lg) := by
  unfold fX12_why_2
  refine bnd3_puM (sX12_hens  hS.1) (fun y1 qy1 zy1 => ?_)
  refine ok_ite (fun c1 => ?_) (fun c1 => ?_)
  · replace c1 := i_le.mp c1
    refine bnd2_pvM (sX12_findBlocks  hS.1) (fun sg6 lg7 hsg6 => ?_)
    have hS2 := hS.tr hsg6 (by decide)
    refine bnd2_pvM (sX12_findDirect  hS2.1) (fun sg9 lg10 hsg9 => ?_)
    have hS3 := hS2.tr hsg9 (by decide)
    refine bnd2_pvM (sX12_findAll  hS3.1) (fun sg12 lg13 hsg12 => ?_)
    have hS4 := hS3.tr hsg12 (by decide)
    have k5 : (0 : Int32).toInt = 0 := by decide
    exact sLX12_why_86 hS4 (by omega) (by omega)
  · replace c1 := i_nle.mp c1
    have k6 : (0 : Int32).toInt = 0 := by decide
    exact sLX12_why_14 hS (by omega) (by omega) (by omega) (by omega) hr2
set_option maxHeartbeats 4000000 in
theorem sLX12_why_2 {s0 : Sg} {l0 : Lg} {v1 : Int32} {sg : Sg} {lg : Lg} (hS : StM MX12_why s0 l0 sg lg) (v1l : 0 ≤ v1.toInt) (v1h : v1.toInt ≤ 12) : Ok (PLM MX12_why s0 l0) (LX12_why_2 (v1, sg, lg)) := by
  unfold LX12_why_2
  refine ok_loop (I := fun (z : Int32 × Sg × Lg) => StM MX12_why s0 l0 z.2.1 z.2.2 ∧ 0 ≤ z.1.toInt ∧ z.1.toInt ≤ 12) (m := fun (z : Int32 × Sg × Lg) => (13 - z.1.toInt).toNat) _ ?_ ?_ _ ?_
  · intro z hz
    obtain ⟨h0, h1, h2⟩ := hz
    show (13 - z.1.toInt).toNat < 10000
    omega
  · intro rec z hz hrec
    obtain ⟨v1, sg, lg⟩ := z
    replace hz : StM MX12_why s0 l0 sg lg ∧ 0 ≤ v1.toInt ∧ v1.toInt ≤ 12 := hz
    obtain ⟨h0, h1, h2⟩ := hz
    show Ok (PLM MX12_why s0 l0) (fX12_why_2 rec v1 sg lg)
    exact sX12_why_2 h0 h1 h2 (fun v1' sg' lg' g0 g1 g2 g3 => hrec (v1', sg', lg') ⟨g0, g1, g2⟩ (show (13 - v1'.toInt).toNat < (13 - v1.toInt).toNat by omega))
  · exact ⟨hS, v1l, v1h⟩
set_option maxHeartbeats 4000000 in
theorem sX12_why {sg : Sg} {lg : Lg} (hI : IM sg lg) : Ok (PLM MX12_why sg lg) (fX12_why sg lg) := by
  have hS : StM MX12_why sg lg sg lg := StM.rf hI
  unfold fX12_why
  have k1 : (0 : Int32).toInt = 0 := by decide
  exact sLX12_why_2 hS (by omega) (by omega)
set_option maxHeartbeats 4000000 in
theorem sX12_begin {sg : Sg} {lg : Lg} (hI : IM sg lg) : Ok (PLM MX12_begin sg lg) (fX12_begin sg lg) := by
  have hS : StM MX12_begin sg lg sg lg := StM.rf hI
  unfold fX12_begin
  have f1 := rdM0_4 hS.1
  refine ok_lt (fun x1 ex1 => ?_)
  replace ex1 := congrArg Int32.toInt ex1
  have k2 : (0 : Int32).toInt = 0 := by decide
  refine ok_lt (fun sg2 esg2 => ?_)
  have hS3 := upM0_4 hS (by decide) esg2 (by omega) (by omega)
  have e4 : (sg2 0 4).toInt = (0 : Int32).toInt := by rw [esg2]; rfl
  exact ok_some (mkPLM hS3)
set_option maxHeartbeats 4000000 in
theorem sX12_stands_31 {r4 : (Int32 × Int32 × Int32 × Sg × Lg) → Option (Int32 × Sg × Lg)} {v1 : Int32} {v3 : Int32} {w0 : Int32} {sg : Sg} {lg : Lg} (hI : IM sg lg) (v1l : 0 ≤ v1.toInt) (v1h : v1.toInt ≤ 11) (v3l : 0 ≤ v3.toInt) (v3h : v3.toInt ≤ 11) (w0l : 0 ≤ w0.toInt) (w0h : w0.toInt ≤ 1) (hr4 : ∀ (v1' : Int32) (v2' : Int32) (v3' : Int32), 0 ≤ v1'.toInt → v1'.toInt ≤ 11 → 0 ≤ v2'.toInt → v2'.toInt ≤ 1 → 0 ≤ v3'.toInt → v3'.toInt ≤ 12 → v3.toInt < v3'.toInt → Ok (PUM sg lg 0 1) (r4 (v1', v2', v3', sg, lg))) : Ok (PUM sg lg 0 1) (fX12_stands_31 r4 v1 v3 w0 sg lg) := by
  unfold fX12_stands_31
  refine ok_lt (fun x1 ex1 => ?_)
  replace ex1 : x1.toInt = v3.toInt + 1 := by rw [ex1]; exact add_c 1 (by decide) (by omega) (by omega)
  exact hr4 v1 w0 x1 (by omega) (by omega) (by omega) (by omega) (by omega) (by omega) (by omega)
set_option maxHeartbeats 4000000 in
theorem sX12_stands_26 {r4 : (Int32 × Int32 × Int32 × Sg × Lg) → Option (Int32 × Sg × Lg)} {v1 : Int32} {v3 : Int32} {sg : Sg} {lg : Lg} (hI : IM sg lg) (v1l : 0 ≤ v1.toInt) (v1h : v1.toInt ≤ 11) (v3l : 0 ≤ v3.toInt) (v3h : v3.toInt ≤ 11) (hr4 : ∀ (v1' : Int32) (v2' : Int32) (v3' : Int32), 0 ≤ v1'.toInt → v1'.toInt ≤ 11 → 0 ≤ v2'.toInt → v2'.toInt ≤ 1 → 0 ≤ v3'.toInt → v3'.toInt ≤ 12 → v3.toInt < v3'.toInt → Ok (PUM sg lg 0 1) (r4 (v1', v2', v3', sg, lg))) : Ok (PUM sg lg 0 1) (fX12_stands_26 r4 v1 v3 sg lg) := by
  unfold fX12_stands_26
  have k1 : (1 : Int32).toInt = 1 := by decide
  exact sX12_stands_31 hI (by omega) (by omega) (by omega) (by omega) (by omega) (by omega) hr4
set_option maxHeartbeats 4000000 in
theorem sX12_stands_4 {r4 : (Int32 × Int32 × Int32 × Sg × Lg) → Option (Int32 × Sg × Lg)} {v1 : Int32} {v2 : Int32} {v3 : Int32} {sg : Sg} {lg : Lg} (hI : IM sg lg) (v1l : 0 ≤ v1.toInt) (v1h : v1.toInt ≤ 11) (v2l : 0 ≤ v2.toInt) (v2h : v2.toInt ≤ 1) (v3l : 0 ≤ v3.toInt) (v3h : v3.toInt ≤ 12) (hr4 : ∀ (v1' : Int32) (v2' : Int32) (v3' : Int32), 0 ≤ v1'.toInt → v1'.toInt ≤ 11 → 0 ≤ v2'.toInt → v2'.toInt ≤ 1 → 0 ≤ v3'.toInt → v3'.toInt ≤ 12 → v3.toInt < v3'.toInt → Ok (PUM sg lg 0 1) (r4 (v1', v2', v3', sg, lg))) : Ok (PUM sg lg 0 1) (fX12_stands_4 r4 v1 v2 v3 sg lg) := by
  unfold fX12_stands_4
  refine ok_ite (fun c1 => ?_) (fun c1 => ?_)
  · have f2 := rdM0_4 hI
    replace c1 := i_le.mp c1
    refine ok_gz (by omega) (by omega) ?_
    exact ok_some (mkPUM (by omega) (by omega))
  · have f3 := rdM0_4 hI
    replace c1 := i_nle.mp c1
    refine ok_ite (fun c4 => ?_) (fun c4 => ?_)
    · have k5 : (0 : Int32).toInt = 0 := by decide
      replace c4 := i_eq.mp c4
      refine ok_gin (by omega) (by omega) ?_
      refine ok_ite (fun c6 => ?_) (fun c6 => ?_)
      · have f7 := rdM3 hI (j := v3.toNatClampNeg)
        replace c6 := i_eq.mp c6
        exact sX12_stands_26 hI (by omega) (by omega) (by omega) (by omega) hr4
      · have f8 := rdM3 hI (j := v3.toNatClampNeg)
        replace c6 := i_ne.mp c6
        exact sX12_stands_31 hI (by omega) (by omega) (by omega) (by omega) (by omega) (by omega) hr4
    · have k9 : (0 : Int32).toInt = 0 := by decide
      replace c4 := i_ne.mp c4
      exact sX12_stands_26 hI (by omega) (by omega) (by omega) (by omega) hr4
set_option maxHeartbeats 4000000 in
theorem sLX12_stands_4 {v1 : Int32} {v2 : Int32} {v3 : Int32} {sg : Sg} {lg : Lg} (hI : IM sg lg) (v1l : 0 ≤ v1.toInt) (v1h : v1.toInt ≤ 11) (v2l : 0 ≤ v2.toInt) (v2h : v2.toInt ≤ 1) (v3l : 0 ≤ v3.toInt) (v3h : v3.toInt ≤ 12) : Ok (PUM sg lg 0 1) (LX12_stands_4 (v1, v2, v3, sg, lg)) := by
  unfold LX12_stands_4
  refine ok_loop (I := fun (z : Int32 × Int32 × Int32 × Sg × Lg) => z.2.2.2.1 = sg ∧ z.2.2.2.2 = lg ∧ 0 ≤ z.1.toInt ∧ z.1.toInt ≤ 11 ∧ 0 ≤ z.2.1.toInt ∧ z.2.1.toInt ≤ 1 ∧ 0 ≤ z.2.2.1.toInt ∧ z.2.2.1.toInt ≤ 12) (m := fun (z : Int32 × Int32 × Int32 × Sg × Lg) => (13 - z.2.2.1.toInt).toNat) _ ?_ ?_ _ ?_
  · intro z hz
    obtain ⟨h0, h1, h2, h3, h4, h5, h6, h7⟩ := hz
    show (13 - z.2.2.1.toInt).toNat < 10000
    omega
  · intro rec z hz hrec
    obtain ⟨v1, v2, v3, sg1, lg1⟩ := z
    replace hz : sg1 = sg ∧ lg1 = lg ∧ 0 ≤ v1.toInt ∧ v1.toInt ≤ 11 ∧ 0 ≤ v2.toInt ∧ v2.toInt ≤ 1 ∧ 0 ≤ v3.toInt ∧ v3.toInt ≤ 12 := hz
    obtain ⟨h0, h1, h2, h3, h4, h5, h6, h7⟩ := hz
    subst sg1
    subst lg1
    show Ok (PUM sg lg 0 1) (fX12_stands_4 rec v1 v2 v3 sg lg)
    exact sX12_stands_4 hI h2 h3 h4 h5 h6 h7 (fun v1' v2' v3' g0 g1 g2 g3 g4 g5 g6 => hrec (v1', v2', v3', sg, lg) ⟨rfl, rfl, g0, g1, g2, g3, g4, g5⟩ (show (13 - v3'.toInt).toNat < (13 - v3.toInt).toNat by omega))
  · exact ⟨rfl, rfl, v1l, v1h, v2l, v2h, v3l, v3h⟩
set_option maxHeartbeats 4000000 in
theorem sX12_stands {v1 : Int32} {sg : Sg} {lg : Lg} (hI : IM sg lg) (v1l : 0 ≤ v1.toInt) (v1h : v1.toInt ≤ 11) : Ok (PUM sg lg 0 1) (fX12_stands v1 sg lg) := by
  unfold fX12_stands
  have k1 : (0 : Int32).toInt = 0 := by decide
  exact sLX12_stands_4 hI (by omega) (by omega) (by omega) (by omega) (by omega) (by omega)
set_option maxHeartbeats 4000000 in
theorem sX12_stand {v1 : Int32} {sg : Sg} {lg : Lg} (hI : IM sg lg) : Ok (PLM MX12_stand sg lg) (fX12_stand v1 sg lg) := by
  have hS : StM MX12_stand sg lg sg lg := StM.rf hI
  unfold fX12_stand
  refine bnd3_pxM (sX12_isHen (v1 := v1) hS.1) (fun y1 qy1 zy1 xy1 => ?_)
  replace xy1 : y1.toInt = 0 ∨ (0 ≤ v1.toInt ∧ v1.toInt ≤ 11) := xy1
  refine ok_ite (fun c1 => ?_) (fun c1 => ?_)
  · have k2 : (0 : Int32).toInt = 0 := by decide
    replace c1 := i_eq.mp c1
    exact ok_some (mkPLM hS)
  · have k3 : (0 : Int32).toInt = 0 := by decide
    replace c1 := i_ne.mp c1
    refine bnd3_puM (sX12_stands (v1 := v1) hS.1 (by omega) (by omega)) (fun y6 qy6 zy6 => ?_)
    refine ok_ite (fun c4 => ?_) (fun c4 => ?_)
    · replace c4 := i_eq.mp c4
      refine ok_ite (fun c5 => ?_) (fun c5 => ?_)
      · have f6 := rdM0_4 hS.1
        have k7 : (12 : Int32).toInt = 12 := by decide
        replace c5 := i_eq.mp c5
        exact ok_some (mkPLM hS)
      · have f8 := rdM0_4 hS.1
        have k9 : (12 : Int32).toInt = 12 := by decide
        replace c5 := i_ne.mp c5
        refine ok_gin (by omega) (by omega) ?_
        refine ok_lt (fun sg13 esg13 => ?_)
        have hS10 := upM3 hS (by decide) esg13 (by omega) (by omega)
        have e11 : (sg13 0 4).toInt = (sg 0 4).toInt := by rw [esg13]; rfl
        have f12 := rdM0_4 hS10.1
        refine ok_lt (fun x14 ex14 => ?_)
        replace ex14 : x14.toInt = (sg13 0 4).toInt + 1 := by rw [ex14]; exact add_c 1 (by decide) (by omega) (by omega)
        refine ok_lt (fun sg15 esg15 => ?_)
        have hS13 := upM0_4 hS10 (by decide) esg15 (by omega) (by omega)
        have e14 : (sg15 0 4).toInt = x14.toInt := by rw [esg15]; rfl
        exact ok_some (mkPLM hS13)
    · replace c4 := i_ne.mp c4
      exact ok_some (mkPLM hS)
set_option maxHeartbeats 4000000 in
theorem sX12_order {v1 : Int32} {sg : Sg} {lg : Lg} (hI : IM sg lg) : Ok (PUlM sg lg) (fX12_order v1 sg lg) := by
  unfold fX12_order
  have f1 : v1.toInt64.toInt = v1.toInt := Int32.toInt_toInt64 _
  have k2 : (0 : Int64).toInt = 0 := by decide
  have f3 := rdM0_4 hI
  have k4 : (1 : Int32).toInt = 1 := by decide
  have f5 := sub_i (a := (sg 0 4)) (b := (1 : Int32)) (by omega) (by omega)
  have f6 : ((sg 0 4) - (1 : Int32)).toInt64.toInt = ((sg 0 4) - (1 : Int32)).toInt := Int32.toInt_toInt64 _
  refine bnd3_pxM (sX12_isIn (v0 := v1.toInt64) (v2 := (0 : Int64)) (v4 := ((sg 0 4) - (1 : Int32)).toInt64) hI) (fun y1 qy1 zy1 xy1 => ?_)
  replace xy1 : y1.toInt = 0 ∨ ((0 : Int64).toInt ≤ v1.toInt64.toInt ∧ v1.toInt64.toInt ≤ ((sg 0 4) - (1 : Int32)).toInt64.toInt) := xy1
  refine ok_ite (fun c7 => ?_) (fun c7 => ?_)
  · have k8 : (0 : Int32).toInt = 0 := by decide
    replace c7 := i_eq.mp c7
    exact ok_some (mkPUlM)
  · have k9 : (0 : Int32).toInt = 0 := by decide
    replace c7 := i_ne.mp c7
    refine ok_gin (by omega) (by omega) ?_
    exact ok_some (mkPUlM)
set_option maxHeartbeats 4000000 in
theorem sX12_shift_22 {s0 : Sg} {l0 : Lg} {r22 : (Int32 × Int32 × Int32 × Int32 × Sg × Lg) → Option (Sg × Lg)} {v2 : Int32} {v3 : Int32} {v4 : Int32} {v5 : Int32} {sg : Sg} {lg : Lg} (hS : StM MX12_shift s0 l0 sg lg) (v2l : 0 ≤ v2.toInt) (v2h : v2.toInt ≤ 11) (v3l : 0 ≤ v3.toInt) (v3h : v3.toInt ≤ 11) (v4l : (-1) ≤ v4.toInt) (v4h : v4.toInt ≤ 1) (v5l : 0 ≤ v5.toInt) (v5h : v5.toInt ≤ 11) (xd : (v4.toInt = 1 ∧ v5.toInt ≤ v2.toInt) ∨ (v4.toInt = -1 ∧ v2.toInt ≤ v5.toInt)) (hr22 : ∀ (v2' : Int32) (v3' : Int32) (v4' : Int32) (v5' : Int32) (sg' : Sg) (lg' : Lg), StM MX12_shift s0 l0 sg' lg' → 0 ≤ v2'.toInt → v2'.toInt ≤ 11 → 0 ≤ v3'.toInt → v3'.toInt ≤ 11 → (-1) ≤ v4'.toInt → v4'.toInt ≤ 1 → 0 ≤ v5'.toInt → v5'.toInt ≤ 11 → ((v4'.toInt = 1 ∧ v5'.toInt ≤ v2'.toInt) ∨ (v4'.toInt = -1 ∧ v2'.toInt ≤ v5'.toInt)) → (v5'.toInt - v2'.toInt).natAbs < (v5.toInt - v2.toInt).natAbs → Ok (PVM MX12_shift s0 l0) (r22 (v2', v3', v4', v5', sg', lg'))) : Ok (PVM MX12_shift s0 l0) (fX12_shift_22 r22 v2 v3 v4 v5 sg lg) := by
  unfold fX12_shift_22
  refine ok_ite (fun c1 => ?_) (fun c1 => ?_)
  · replace c1 := i_eq.mp c1
    refine ok_gin (by omega) (by omega) ?_
    refine ok_lt (fun sg3 esg3 => ?_)
    have hS2 := upM3 hS (by decide) esg3 (by omega) (by omega)
    exact ok_some (mkPVM hS2)
  · replace c1 := i_ne.mp c1
    have f3 := add_i (a := v5) (b := v4) (by omega) (by omega)
    refine ok_lt (fun x4 ex4 => ?_)
    replace ex4 := congrArg Int32.toInt ex4
    refine ok_gin (by omega) (by omega) ?_
    have f4 := rdM3 hS.1 (j := x4.toNatClampNeg)
    refine ok_lt (fun x6 ex6 => ?_)
    replace ex6 := congrArg Int32.toInt ex6
    refine ok_gin (by omega) (by omega) ?_
    refine ok_lt (fun sg8 esg8 => ?_)
    have hS5 := upM3 hS (by decide) esg8 (by omega) (by omega)
    refine ok_lt (fun x9 ex9 => ?_)
    replace ex9 := congrArg Int32.toInt ex9
    exact hr22 v2 v3 v4 x9 sg8 lg hS5 (by omega) (by omega) (by omega) (by omega) (by omega) (by omega) (by omega) (by omega) (by omega) (by omega)
set_option maxHeartbeats 4000000 in
theorem sLX12_shift_22 {s0 : Sg} {l0 : Lg} {v2 : Int32} {v3 : Int32} {v4 : Int32} {v5 : Int32} {sg : Sg} {lg : Lg} (hS : StM MX12_shift s0 l0 sg lg) (v2l : 0 ≤ v2.toInt) (v2h : v2.toInt ≤ 11) (v3l : 0 ≤ v3.toInt) (v3h : v3.toInt ≤ 11) (v4l : (-1) ≤ v4.toInt) (v4h : v4.toInt ≤ 1) (v5l : 0 ≤ v5.toInt) (v5h : v5.toInt ≤ 11) (xd : ((v4.toInt = 1 ∧ v5.toInt ≤ v2.toInt) ∨ (v4.toInt = -1 ∧ v2.toInt ≤ v5.toInt))) : Ok (PVM MX12_shift s0 l0) (LX12_shift_22 (v2, v3, v4, v5, sg, lg)) := by
  unfold LX12_shift_22
  refine ok_loop (I := fun (z : Int32 × Int32 × Int32 × Int32 × Sg × Lg) => StM MX12_shift s0 l0 z.2.2.2.2.1 z.2.2.2.2.2 ∧ 0 ≤ z.1.toInt ∧ z.1.toInt ≤ 11 ∧ 0 ≤ z.2.1.toInt ∧ z.2.1.toInt ≤ 11 ∧ (-1) ≤ z.2.2.1.toInt ∧ z.2.2.1.toInt ≤ 1 ∧ 0 ≤ z.2.2.2.1.toInt ∧ z.2.2.2.1.toInt ≤ 11 ∧ ((z.2.2.1.toInt = 1 ∧ z.2.2.2.1.toInt ≤ z.1.toInt) ∨ (z.2.2.1.toInt = -1 ∧ z.1.toInt ≤ z.2.2.2.1.toInt))) (m := fun (z : Int32 × Int32 × Int32 × Int32 × Sg × Lg) => (z.2.2.2.1.toInt - z.1.toInt).natAbs) _ ?_ ?_ _ ?_
  · intro z hz
    obtain ⟨h0, h1, h2, h3, h4, h5, h6, h7, h8, h9⟩ := hz
    show (z.2.2.2.1.toInt - z.1.toInt).natAbs < 10000
    omega
  · intro rec z hz hrec
    obtain ⟨v2, v3, v4, v5, sg, lg⟩ := z
    replace hz : StM MX12_shift s0 l0 sg lg ∧ 0 ≤ v2.toInt ∧ v2.toInt ≤ 11 ∧ 0 ≤ v3.toInt ∧ v3.toInt ≤ 11 ∧ (-1) ≤ v4.toInt ∧ v4.toInt ≤ 1 ∧ 0 ≤ v5.toInt ∧ v5.toInt ≤ 11 ∧ ((v4.toInt = 1 ∧ v5.toInt ≤ v2.toInt) ∨ (v4.toInt = -1 ∧ v2.toInt ≤ v5.toInt)) := hz
    obtain ⟨h0, h1, h2, h3, h4, h5, h6, h7, h8, h9⟩ := hz
    show Ok (PVM MX12_shift s0 l0) (fX12_shift_22 rec v2 v3 v4 v5 sg lg)
    exact sX12_shift_22 h0 h1 h2 h3 h4 h5 h6 h7 h8 h9 (fun v2' v3' v4' v5' sg' lg' g0 g1 g2 g3 g4 g5 g6 g7 g8 g9 g10 => hrec (v2', v3', v4', v5', sg', lg') ⟨g0, g1, g2, g3, g4, g5, g6, g7, g8, g9⟩ (show (v5'.toInt - v2'.toInt).natAbs < (v5.toInt - v2.toInt).natAbs by omega))
  · exact ⟨hS, v2l, v2h, v3l, v3h, v4l, v4h, v5l, v5h, xd⟩
set_option maxHeartbeats 4000000 in
theorem sX12_shift_17 {s0 : Sg} {l0 : Lg} {v1 : Int32} {v2 : Int32} {v3 : Int32} {w0 : Int32} {sg : Sg} {lg : Lg} (hS : StM MX12_shift s0 l0 sg lg) (v1l : 0 ≤ v1.toInt) (v1h : v1.toInt ≤ 11) (v2l : 0 ≤ v2.toInt) (v2h : v2.toInt ≤ 11) (v3l : 0 ≤ v3.toInt) (v3h : v3.toInt ≤ 11) (w0l : (-1) ≤ w0.toInt) (w0h : w0.toInt ≤ 1) (xd : (w0.toInt = 1 ∧ v1.toInt ≤ v2.toInt) ∨ (w0.toInt = -1 ∧ v2.toInt ≤ v1.toInt)) : Ok (PVM MX12_shift s0 l0) (fX12_shift_17 v1 v2 v3 w0 sg lg) := by
  unfold fX12_shift_17
  exact sLX12_shift_22 hS (by omega) (by omega) (by omega) (by omega) (by omega) (by omega) (by omega) (by omega) (by omega)
set_option maxHeartbeats 4000000 in
theorem sX12_shift {v1 : Int32} {v2 : Int32} {sg : Sg} {lg : Lg} (hI : IM sg lg) (v1l : 0 ≤ v1.toInt) (v1h : v1.toInt ≤ 11) (v2l : 0 ≤ v2.toInt) (v2h : v2.toInt ≤ 11) : Ok (PVM MX12_shift sg lg) (fX12_shift v1 v2 sg lg) := by
  have hS : StM MX12_shift sg lg sg lg := StM.rf hI
  unfold fX12_shift
  refine ok_gin (by omega) (by omega) ?_
  have f1 := rdM3 hS.1 (j := v1.toNatClampNeg)
  refine ok_lt (fun x2 ex2 => ?_)
  replace ex2 := congrArg Int32.toInt ex2
  refine ok_ite (fun c2 => ?_) (fun c2 => ?_)
  · replace c2 := i_le.mp c2
    have k3 : (-1 : Int32).toInt = -1 := by decide
    exact sX12_shift_17 hS (by omega) (by omega) (by omega) (by omega) (by omega) (by omega) (by omega) (by omega) (by omega)
  · replace c2 := i_nle.mp c2
    have k4 : (1 : Int32).toInt = 1 := by decide
    exact sX12_shift_17 hS (by omega) (by omega) (by omega) (by omega) (by omega) (by omega) (by omega) (by omega) (by omega)
set_option maxHeartbeats 4000000 in
theorem sX12_move {v1 : Int32} {v2 : Int32} {sg : Sg} {lg : Lg} (hI : IM sg lg) : Ok (PLM MX12_move sg lg) (fX12_move v1 v2 sg lg) := by
  have hS : StM MX12_move sg lg sg lg := StM.rf hI
  unfold fX12_move
  have f1 : v1.toInt64.toInt = v1.toInt := Int32.toInt_toInt64 _
  have k2 : (0 : Int64).toInt = 0 := by decide
  have f3 := rdM0_4 hS.1
  have k4 : (1 : Int32).toInt = 1 := by decide
  have f5 := sub_i (a := (sg 0 4)) (b := (1 : Int32)) (by omega) (by omega)
  have f6 : ((sg 0 4) - (1 : Int32)).toInt64.toInt = ((sg 0 4) - (1 : Int32)).toInt := Int32.toInt_toInt64 _
  refine bnd3_pxM (sX12_isIn (v0 := v1.toInt64) (v2 := (0 : Int64)) (v4 := ((sg 0 4) - (1 : Int32)).toInt64) hS.1) (fun y1 qy1 zy1 xy1 => ?_)
  replace xy1 : y1.toInt = 0 ∨ ((0 : Int64).toInt ≤ v1.toInt64.toInt ∧ v1.toInt64.toInt ≤ ((sg 0 4) - (1 : Int32)).toInt64.toInt) := xy1
  refine ok_ite (fun c7 => ?_) (fun c7 => ?_)
  · have k8 : (0 : Int32).toInt = 0 := by decide
    replace c7 := i_eq.mp c7
    exact ok_some (mkPLM hS)
  · have k9 : (0 : Int32).toInt = 0 := by decide
    replace c7 := i_ne.mp c7
    have f10 : v2.toInt64.toInt = v2.toInt := Int32.toInt_toInt64 _
    refine bnd3_pxM (sX12_isIn (v0 := v2.toInt64) (v2 := (0 : Int64)) (v4 := ((sg 0 4) - (1 : Int32)).toInt64) hS.1) (fun y6 qy6 zy6 xy6 => ?_)
    replace xy6 : y6.toInt = 0 ∨ ((0 : Int64).toInt ≤ v2.toInt64.toInt ∧ v2.toInt64.toInt ≤ ((sg 0 4) - (1 : Int32)).toInt64.toInt) := xy6
    refine ok_ite (fun c11 => ?_) (fun c11 => ?_)
    · replace c11 := i_eq.mp c11
      exact ok_some (mkPLM hS)
    · replace c11 := i_ne.mp c11
      refine bnd2_pvM (sX12_shift (v1 := v1) (v2 := v2) hS.1 (by omega) (by omega) (by omega) (by omega)) (fun sg11 lg12 hsg11 => ?_)
      have e12 : (sg11 0 4).toInt = (sg 0 4).toInt := congrArg Int32.toInt (congrFun (hsg11.fr 0 (by decide)) _)
      have hS13 := hS.tr hsg11 (by decide)
      exact ok_some (mkPLM hS13)
set_option maxHeartbeats 4000000 in
theorem sX12_weightNow_15 {r4 : (Int64 × Int32 × Sg × Lg) → Option (Int64 × Sg × Lg)} {r15 : (Int64 × Int32 × Int32 × Sg × Lg) → Option (Int64 × Sg × Lg)} {v1 : Int64} {v3 : Int32} {v4 : Int32} {sg : Sg} {lg : Lg} (hI : IM sg lg) (v3l : 0 ≤ v3.toInt) (v3h : v3.toInt ≤ 11) (v4l : 0 ≤ v4.toInt) (v4h : v4.toInt ≤ 11) (hr4 : ∀ (v1' : Int64) (v3' : Int32), 0 ≤ v3'.toInt → v3'.toInt ≤ 12 → v3.toInt < v3'.toInt → Ok (PUlM sg lg) (r4 (v1', v3', sg, lg))) (hr15 : ∀ (v1' : Int64) (v3' : Int32) (v4' : Int32), 0 ≤ v3'.toInt → v3'.toInt ≤ 11 → 0 ≤ v4'.toInt → v4'.toInt ≤ 11 → (∀ (v1'' : Int64) (v3'' : Int32), 0 ≤ v3''.toInt → v3''.toInt ≤ 12 → v3'.toInt < v3''.toInt → Ok (PUlM sg lg) (r4 (v1'', v3'', sg, lg))) → v4.toInt < v4'.toInt → Ok (PUlM sg lg) (r15 (v1', v3', v4', sg, lg))) : Ok (PUlM sg lg) (fX12_weightNow_15 r4 r15 v1 v3 v4 sg lg) := by
  unfold fX12_weightNow_15
  refine ok_ite (fun c1 => ?_) (fun c1 => ?_)
  · replace c1 := i_le.mp c1
    refine ok_lt (fun x2 ex2 => ?_)
    replace ex2 : x2.toInt = v3.toInt + 1 := by rw [ex2]; exact add_c 1 (by decide) (by omega) (by omega)
    exact hr4 v1 x2 (by omega) (by omega) (by omega)
  · replace c1 := i_nle.mp c1
    refine ok_gin (by omega) (by omega) ?_
    refine ok_gin (by omega) (by omega) ?_
    have f2 := rdM3 hI (j := v3.toNatClampNeg)
    have f3 := rdM3 hI (j := v4.toNatClampNeg)
    refine bnd3_puM (sX12_peckOf (v1 := (sg 3 v3.toNatClampNeg)) (v2 := (sg 3 v4.toNatClampNeg)) hI (by omega) (by omega) (by omega) (by omega)) (fun y5 qy5 zy5 => ?_)
    refine ok_lt (fun x9 ex9 => ?_)
    refine ok_lt (fun x10 ex10 => ?_)
    replace ex10 : x10.toInt = v4.toInt + 1 := by rw [ex10]; exact add_c 1 (by decide) (by omega) (by omega)
    exact hr15 x9 v3 x10 (by omega) (by omega) (by omega) (by omega) hr4 (by omega)
set_option maxHeartbeats 4000000 in
theorem sLX12_weightNow_15 {r4 : (Int64 × Int32 × Sg × Lg) → Option (Int64 × Sg × Lg)} {v1 : Int64} {v3 : Int32} {v4 : Int32} {sg : Sg} {lg : Lg} (hI : IM sg lg) (v3l : 0 ≤ v3.toInt) (v3h : v3.toInt ≤ 11) (v4l : 0 ≤ v4.toInt) (v4h : v4.toInt ≤ 11) (hr4 : ∀ (v1' : Int64) (v3' : Int32), 0 ≤ v3'.toInt → v3'.toInt ≤ 12 → v3.toInt < v3'.toInt → Ok (PUlM sg lg) (r4 (v1', v3', sg, lg))) : Ok (PUlM sg lg) (LX12_weightNow_15 r4 (v1, v3, v4, sg, lg)) := by
  unfold LX12_weightNow_15
  refine ok_loop (I := fun (z : Int64 × Int32 × Int32 × Sg × Lg) => z.2.2.2.1 = sg ∧ z.2.2.2.2 = lg ∧ 0 ≤ z.2.1.toInt ∧ z.2.1.toInt ≤ 11 ∧ 0 ≤ z.2.2.1.toInt ∧ z.2.2.1.toInt ≤ 11 ∧ (∀ (v1' : Int64) (v3' : Int32), 0 ≤ v3'.toInt → v3'.toInt ≤ 12 → z.2.1.toInt < v3'.toInt → Ok (PUlM sg lg) (r4 (v1', v3', sg, lg)))) (m := fun (z : Int64 × Int32 × Int32 × Sg × Lg) => (12 - z.2.2.1.toInt).toNat) _ ?_ ?_ _ ?_
  · intro z hz
    obtain ⟨h0, h1, h2, h3, h4, h5, h6⟩ := hz
    show (12 - z.2.2.1.toInt).toNat < 10000
    omega
  · intro rec z hz hrec
    obtain ⟨v1, v3, v4, sg1, lg1⟩ := z
    replace hz : sg1 = sg ∧ lg1 = lg ∧ 0 ≤ v3.toInt ∧ v3.toInt ≤ 11 ∧ 0 ≤ v4.toInt ∧ v4.toInt ≤ 11 ∧ (∀ (v1' : Int64) (v3' : Int32), 0 ≤ v3'.toInt → v3'.toInt ≤ 12 → v3.toInt < v3'.toInt → Ok (PUlM sg lg) (r4 (v1', v3', sg, lg))) := hz
    obtain ⟨h0, h1, h2, h3, h4, h5, h6⟩ := hz
    subst sg1
    subst lg1
    show Ok (PUlM sg lg) (fX12_weightNow_15 r4 rec v1 v3 v4 sg lg)
    exact sX12_weightNow_15 hI h2 h3 h4 h5 h6 (fun v1' v3' v4' g0 g1 g2 g3 g4 g5 => hrec (v1', v3', v4', sg, lg) ⟨rfl, rfl, g0, g1, g2, g3, g4⟩ (show (12 - v4'.toInt).toNat < (12 - v4.toInt).toNat by omega))
  · exact ⟨rfl, rfl, v3l, v3h, v4l, v4h, hr4⟩
set_option maxHeartbeats 4000000 in
theorem sX12_weightNow_4 {r4 : (Int64 × Int32 × Sg × Lg) → Option (Int64 × Sg × Lg)} {v1 : Int64} {v3 : Int32} {sg : Sg} {lg : Lg} (hI : IM sg lg) (v3l : 0 ≤ v3.toInt) (v3h : v3.toInt ≤ 12) (hr4 : ∀ (v1' : Int64) (v3' : Int32), 0 ≤ v3'.toInt → v3'.toInt ≤ 12 → v3.toInt < v3'.toInt → Ok (PUlM sg lg) (r4 (v1', v3', sg, lg))) : Ok (PUlM sg lg) (fX12_weightNow_4 r4 v1 v3 sg lg) := by
  unfold fX12_weightNow_4
  refine ok_ite (fun c1 => ?_) (fun c1 => ?_)
  · have f2 := rdM0_4 hI
    replace c1 := i_le.mp c1
    exact ok_some (mkPUlM)
  · have f3 := rdM0_4 hI
    replace c1 := i_nle.mp c1
    have k4 : (0 : Int32).toInt = 0 := by decide
    exact sLX12_weightNow_15 hI (by omega) (by omega) (by omega) (by omega) hr4
set_option maxHeartbeats 4000000 in
theorem sLX12_weightNow_4 {v1 : Int64} {v3 : Int32} {sg : Sg} {lg : Lg} (hI : IM sg lg) (v3l : 0 ≤ v3.toInt) (v3h : v3.toInt ≤ 12) : Ok (PUlM sg lg) (LX12_weightNow_4 (v1, v3, sg, lg)) := by
  unfold LX12_weightNow_4
  refine ok_loop (I := fun (z : Int64 × Int32 × Sg × Lg) => z.2.2.1 = sg ∧ z.2.2.2 = lg ∧ 0 ≤ z.2.1.toInt ∧ z.2.1.toInt ≤ 12) (m := fun (z : Int64 × Int32 × Sg × Lg) => (13 - z.2.1.toInt).toNat) _ ?_ ?_ _ ?_
  · intro z hz
    obtain ⟨h0, h1, h2, h3⟩ := hz
    show (13 - z.2.1.toInt).toNat < 10000
    omega
  · intro rec z hz hrec
    obtain ⟨v1, v3, sg1, lg1⟩ := z
    replace hz : sg1 = sg ∧ lg1 = lg ∧ 0 ≤ v3.toInt ∧ v3.toInt ≤ 12 := hz
    obtain ⟨h0, h1, h2, h3⟩ := hz
    subst sg1
    subst lg1
    show Ok (PUlM sg lg) (fX12_weightNow_4 rec v1 v3 sg lg)
    exact sX12_weightNow_4 hI h2 h3 (fun v1' v3' g0 g1 g2 => hrec (v1', v3', sg, lg) ⟨rfl, rfl, g0, g1⟩ (show (13 - v3'.toInt).toNat < (13 - v3.toInt).toNat by omega))
  · exact ⟨rfl, rfl, v3l, v3h⟩
set_option maxHeartbeats 4000000 in
theorem sX12_weightNow {sg : Sg} {lg : Lg} (hI : IM sg lg) : Ok (PUlM sg lg) (fX12_weightNow sg lg) := by
  unfold fX12_weightNow
  have k1 : (0 : Int32).toInt = 0 := by decide
  exact sLX12_weightNow_4 hI (by omega) (by omega)
set_option maxHeartbeats 4000000 in
theorem sX12_weight {sg : Sg} {lg : Lg} (hI : IM sg lg) : Ok (PUlM sg lg) (fX12_weight sg lg) := by
  unfold fX12_weight
  refine bnd3_puM (sX12_isWhole  hI) (fun y1 qy1 zy1 => ?_)
  refine ok_ite (fun c1 => ?_) (fun c1 => ?_)
  · have k2 : (0 : Int32).toInt = 0 := by decide
    replace c1 := i_eq.mp c1
    exact ok_some (mkPUlM)
  · have k3 : (0 : Int32).toInt = 0 := by decide
    replace c1 := i_ne.mp c1
    refine bnd3_pulM (sX12_weightNow  hI) (fun y6 => ?_)
    exact ok_some (mkPUlM)
set_option maxHeartbeats 4000000 in
theorem sX12_faulty_58 {r10 : (Int32 × Int32 × Int32 × Int32 × Sg × Lg) → Option (Int32 × Sg × Lg)} {v1 : Int32} {v2 : Int32} {v4 : Int32} {sg : Sg} {lg : Lg} (hI : IM sg lg) (v1l : (-1) ≤ v1.toInt) (v1h : v1.toInt ≤ 11) (v2l : 0 ≤ v2.toInt) (v2h : v2.toInt ≤ 4095) (v4l : 0 ≤ v4.toInt) (v4h : v4.toInt ≤ 11) (hr10 : ∀ (v1' : Int32) (v2' : Int32) (v3' : Int32) (v4' : Int32), (-1) ≤ v1'.toInt → v1'.toInt ≤ 11 → 0 ≤ v2'.toInt → v2'.toInt ≤ 4095 → 0 ≤ v3'.toInt → v3'.toInt ≤ 12 → 0 ≤ v4'.toInt → v4'.toInt ≤ 12 → v4.toInt < v4'.toInt → Ok (PUM sg lg (-1) 11) (r10 (v1', v2', v3', v4', sg, lg))) : Ok (PUM sg lg (-1) 11) (fX12_faulty_58 r10 v1 v2 v4 sg lg) := by
  unfold fX12_faulty_58
  refine ok_gin (by omega) (by omega) ?_
  have f1 := rdM3 hI (j := v4.toNatClampNeg)
  have f2 := shl_i (v := (sg 3 v4.toNatClampNeg)) 11 2048 (by decide) (by decide) (by omega) (by omega)
  have f3 := or_i (a := v2) (b := ((1 : Int32) <<< ((sg 3 v4.toNatClampNeg) &&& 31))) 12 4096 (by decide) (by decide) (by omega) (by omega) (by omega) (by omega)
  refine ok_lt (fun x2 ex2 => ?_)
  replace ex2 := congrArg Int32.toInt ex2
  refine ok_gin (by omega) (by omega) ?_
  refine ok_lt (fun x4 ex4 => ?_)
  replace ex4 := congrArg Int32.toInt ex4
  refine ok_lt (fun x5 ex5 => ?_)
  replace ex5 : x5.toInt = v4.toInt + 1 := by rw [ex5]; exact add_c 1 (by decide) (by omega) (by omega)
  exact hr10 v1 x2 x4 x5 (by omega) (by omega) (by omega) (by omega) (by omega) (by omega) (by omega) (by omega) (by omega)
set_option maxHeartbeats 4000000 in
theorem sX12_faulty_50 {r10 : (Int32 × Int32 × Int32 × Int32 × Sg × Lg) → Option (Int32 × Sg × Lg)} {v2 : Int32} {v4 : Int32} {sg : Sg} {lg : Lg} (hI : IM sg lg) (v2l : 0 ≤ v2.toInt) (v2h : v2.toInt ≤ 4095) (v4l : 0 ≤ v4.toInt) (v4h : v4.toInt ≤ 11) (hr10 : ∀ (v1' : Int32) (v2' : Int32) (v3' : Int32) (v4' : Int32), (-1) ≤ v1'.toInt → v1'.toInt ≤ 11 → 0 ≤ v2'.toInt → v2'.toInt ≤ 4095 → 0 ≤ v3'.toInt → v3'.toInt ≤ 12 → 0 ≤ v4'.toInt → v4'.toInt ≤ 12 → v4.toInt < v4'.toInt → Ok (PUM sg lg (-1) 11) (r10 (v1', v2', v3', v4', sg, lg))) : Ok (PUM sg lg (-1) 11) (fX12_faulty_50 r10 v2 v4 sg lg) := by
  unfold fX12_faulty_50
  refine ok_gin (by omega) (by omega) ?_
  have f1 := rdM3 hI (j := v4.toNatClampNeg)
  refine ok_lt (fun x2 ex2 => ?_)
  replace ex2 := congrArg Int32.toInt ex2
  exact sX12_faulty_58 hI (by omega) (by omega) (by omega) (by omega) (by omega) (by omega) hr10
set_option maxHeartbeats 4000000 in
theorem sX12_faulty_10 {r10 : (Int32 × Int32 × Int32 × Int32 × Sg × Lg) → Option (Int32 × Sg × Lg)} {v1 : Int32} {v2 : Int32} {v3 : Int32} {v4 : Int32} {sg : Sg} {lg : Lg} (hI : IM sg lg) (v1l : (-1) ≤ v1.toInt) (v1h : v1.toInt ≤ 11) (v2l : 0 ≤ v2.toInt) (v2h : v2.toInt ≤ 4095) (v3l : 0 ≤ v3.toInt) (v3h : v3.toInt ≤ 12) (v4l : 0 ≤ v4.toInt) (v4h : v4.toInt ≤ 12) (hr10 : ∀ (v1' : Int32) (v2' : Int32) (v3' : Int32) (v4' : Int32), (-1) ≤ v1'.toInt → v1'.toInt ≤ 11 → 0 ≤ v2'.toInt → v2'.toInt ≤ 4095 → 0 ≤ v3'.toInt → v3'.toInt ≤ 12 → 0 ≤ v4'.toInt → v4'.toInt ≤ 12 → v4.toInt < v4'.toInt → Ok (PUM sg lg (-1) 11) (r10 (v1', v2', v3', v4', sg, lg))) : Ok (PUM sg lg (-1) 11) (fX12_faulty_10 r10 v1 v2 v3 v4 sg lg) := by
  unfold fX12_faulty_10
  refine ok_ite (fun c1 => ?_) (fun c1 => ?_)
  · have f2 := rdM0_4 hI
    replace c1 := i_le.mp c1
    exact ok_some (mkPUM (by omega) (by omega))
  · have f3 := rdM0_4 hI
    replace c1 := i_nle.mp c1
    refine ok_gin (by omega) (by omega) ?_
    have f4 := rdM3 hI (j := v4.toNatClampNeg)
    refine bnd3_puM (sX12_may (v1 := (sg 3 v4.toNatClampNeg)) (v2 := v2) (v3 := v3) hI (by omega) (by omega) (by omega) (by omega) (by omega) (by omega)) (fun y3 qy3 zy3 => ?_)
    refine ok_ite (fun c5 => ?_) (fun c5 => ?_)
    · have k6 : (0 : Int32).toInt = 0 := by decide
      replace c5 := i_eq.mp c5
      refine ok_ite (fun c7 => ?_) (fun c7 => ?_)
      · replace c7 := i_lt.mp c7
        exact sX12_faulty_50 hI (by omega) (by omega) (by omega) (by omega) hr10
      · replace c7 := i_nlt.mp c7
        refine ok_gin (by omega) (by omega) ?_
        refine ok_ite (fun c8 => ?_) (fun c8 => ?_)
        · replace c8 := i_le.mp c8
          exact sX12_faulty_58 hI (by omega) (by omega) (by omega) (by omega) (by omega) (by omega) hr10
        · replace c8 := i_nle.mp c8
          exact sX12_faulty_50 hI (by omega) (by omega) (by omega) (by omega) hr10
    · have k9 : (0 : Int32).toInt = 0 := by decide
      replace c5 := i_ne.mp c5
      exact sX12_faulty_58 hI (by omega) (by omega) (by omega) (by omega) (by omega) (by omega) hr10
set_option maxHeartbeats 4000000 in
theorem sLX12_faulty_10 {v1 : Int32} {v2 : Int32} {v3 : Int32} {v4 : Int32} {sg : Sg} {lg : Lg} (hI : IM sg lg) (v1l : (-1) ≤ v1.toInt) (v1h : v1.toInt ≤ 11) (v2l : 0 ≤ v2.toInt) (v2h : v2.toInt ≤ 4095) (v3l : 0 ≤ v3.toInt) (v3h : v3.toInt ≤ 12) (v4l : 0 ≤ v4.toInt) (v4h : v4.toInt ≤ 12) : Ok (PUM sg lg (-1) 11) (LX12_faulty_10 (v1, v2, v3, v4, sg, lg)) := by
  unfold LX12_faulty_10
  refine ok_loop (I := fun (z : Int32 × Int32 × Int32 × Int32 × Sg × Lg) => z.2.2.2.2.1 = sg ∧ z.2.2.2.2.2 = lg ∧ (-1) ≤ z.1.toInt ∧ z.1.toInt ≤ 11 ∧ 0 ≤ z.2.1.toInt ∧ z.2.1.toInt ≤ 4095 ∧ 0 ≤ z.2.2.1.toInt ∧ z.2.2.1.toInt ≤ 12 ∧ 0 ≤ z.2.2.2.1.toInt ∧ z.2.2.2.1.toInt ≤ 12) (m := fun (z : Int32 × Int32 × Int32 × Int32 × Sg × Lg) => (13 - z.2.2.2.1.toInt).toNat) _ ?_ ?_ _ ?_
  · intro z hz
    obtain ⟨h0, h1, h2, h3, h4, h5, h6, h7, h8, h9⟩ := hz
    show (13 - z.2.2.2.1.toInt).toNat < 10000
    omega
  · intro rec z hz hrec
    obtain ⟨v1, v2, v3, v4, sg1, lg1⟩ := z
    replace hz : sg1 = sg ∧ lg1 = lg ∧ (-1) ≤ v1.toInt ∧ v1.toInt ≤ 11 ∧ 0 ≤ v2.toInt ∧ v2.toInt ≤ 4095 ∧ 0 ≤ v3.toInt ∧ v3.toInt ≤ 12 ∧ 0 ≤ v4.toInt ∧ v4.toInt ≤ 12 := hz
    obtain ⟨h0, h1, h2, h3, h4, h5, h6, h7, h8, h9⟩ := hz
    subst sg1
    subst lg1
    show Ok (PUM sg lg (-1) 11) (fX12_faulty_10 rec v1 v2 v3 v4 sg lg)
    exact sX12_faulty_10 hI h2 h3 h4 h5 h6 h7 h8 h9 (fun v1' v2' v3' v4' g0 g1 g2 g3 g4 g5 g6 g7 g8 => hrec (v1', v2', v3', v4', sg, lg) ⟨rfl, rfl, g0, g1, g2, g3, g4, g5, g6, g7⟩ (show (13 - v4'.toInt).toNat < (13 - v4.toInt).toNat by omega))
  · exact ⟨rfl, rfl, v1l, v1h, v2l, v2h, v3l, v3h, v4l, v4h⟩
set_option maxHeartbeats 4000000 in
theorem sX12_faulty {sg : Sg} {lg : Lg} (hI : IM sg lg) : Ok (PUM sg lg (-1) 11) (fX12_faulty sg lg) := by
  unfold fX12_faulty
  have k1 : (-1 : Int32).toInt = -1 := by decide
  have k2 : (0 : Int32).toInt = 0 := by decide
  have k3 : (12 : Int32).toInt = 12 := by decide
  exact sLX12_faulty_10 hI (by omega) (by omega) (by omega) (by omega) (by omega) (by omega) (by omega) (by omega)
set_option maxHeartbeats 4000000 in
theorem sX12_fault {sg : Sg} {lg : Lg} (hI : IM sg lg) : Ok (PUlM sg lg) (fX12_fault sg lg) := by
  unfold fX12_fault
  refine bnd3_puM (sX12_isWhole  hI) (fun y1 qy1 zy1 => ?_)
  refine ok_ite (fun c1 => ?_) (fun c1 => ?_)
  · have k2 : (0 : Int32).toInt = 0 := by decide
    replace c1 := i_eq.mp c1
    exact ok_some (mkPUlM)
  · have k3 : (0 : Int32).toInt = 0 := by decide
    replace c1 := i_ne.mp c1
    refine bnd3_puM (sX12_faulty  hI) (fun y6 qy6 zy6 => ?_)
    refine ok_ite (fun c4 => ?_) (fun c4 => ?_)
    · replace c4 := i_le.mp c4
      refine bnd3_puM (sX12_faulty  hI) (fun y11 qy11 zy11 => ?_)
      exact ok_some (mkPUlM)
    · replace c4 := i_nle.mp c4
      exact ok_some (mkPUlM)
set_option maxHeartbeats 4000000 in
theorem sX12_betters_183 {s0 : Sg} {l0 : Lg} {v3 : Int32} {sg : Sg} {lg : Lg} (hS : StM MX12_betters s0 l0 sg lg) (v3l : (-1) ≤ v3.toInt) (v3h : v3.toInt ≤ 11) : Ok (PIM MX12_betters s0 l0 0 1) (fX12_betters_183 v3 sg lg) := by
  unfold fX12_betters_183
  refine ok_ite (fun c1 => ?_) (fun c1 => ?_)
  · have k2 : (0 : Int32).toInt = 0 := by decide
    replace c1 := i_lt.mp c1
    exact ok_some (mkPIM hS (by omega) (by omega))
  · have k3 : (0 : Int32).toInt = 0 := by decide
    replace c1 := i_nlt.mp c1
    have k4 : (1 : Int32).toInt = 1 := by decide
    exact ok_some (mkPIM hS (by omega) (by omega))
set_option maxHeartbeats 4000000 in
theorem sX12_betters_160 {s0 : Sg} {l0 : Lg} {r13 : (Int64 × Int32 × Int32 × Int32 × Sg × Lg) → Option (Int32 × Sg × Lg)} {r25 : (Int64 × Int32 × Int32 × Int32 × Int32 × Sg × Lg) → Option (Int32 × Sg × Lg)} {v1 : Int64} {v3 : Int32} {v4 : Int32} {v5 : Int32} {v6 : Int32} {sg : Sg} {lg : Lg} (hS : StM MX12_betters s0 l0 sg lg) (v3l : (-1) ≤ v3.toInt) (v3h : v3.toInt ≤ 11) (v4l : (-1) ≤ v4.toInt) (v4h : v4.toInt ≤ 11) (v5l : 0 ≤ v5.toInt) (v5h : v5.toInt ≤ 11) (v6l : 0 ≤ v6.toInt) (v6h : v6.toInt ≤ 11) (xt : v3.toInt = -1 ∨ 0 ≤ v4.toInt) (hr13 : ∀ (v1' : Int64) (v3' : Int32) (v4' : Int32) (v5' : Int32) (sg' : Sg) (lg' : Lg), StM MX12_betters s0 l0 sg' lg' → (-1) ≤ v3'.toInt → v3'.toInt ≤ 11 → (-1) ≤ v4'.toInt → v4'.toInt ≤ 11 → 0 ≤ v5'.toInt → v5'.toInt ≤ 12 → (v3'.toInt = -1 ∨ 0 ≤ v4'.toInt) → v5.toInt < v5'.toInt → Ok (PIM MX12_betters s0 l0 0 1) (r13 (v1', v3', v4', v5', sg', lg'))) (hr25 : ∀ (v1' : Int64) (v3' : Int32) (v4' : Int32) (v5' : Int32) (v6' : Int32) (sg' : Sg) (lg' : Lg), StM MX12_betters s0 l0 sg' lg' → (-1) ≤ v3'.toInt → v3'.toInt ≤ 11 → (-1) ≤ v4'.toInt → v4'.toInt ≤ 11 → 0 ≤ v5'.toInt → v5'.toInt ≤ 11 → 0 ≤ v6'.toInt → v6'.toInt ≤ 12 → (v3'.toInt = -1 ∨ 0 ≤ v4'.toInt) → (∀ (v1'' : Int64) (v3'' : Int32) (v4'' : Int32) (v5'' : Int32) (sg'' : Sg) (lg'' : Lg), StM MX12_betters s0 l0 sg'' lg'' → (-1) ≤ v3''.toInt → v3''.toInt ≤ 11 → (-1) ≤ v4''.toInt → v4''.toInt ≤ 11 → 0 ≤ v5''.toInt → v5''.toInt ≤ 12 → (v3''.toInt = -1 ∨ 0 ≤ v4''.toInt) → v5'.toInt < v5''.toInt → Ok (PIM MX12_betters s0 l0 0 1) (r13 (v1'', v3'', v4'', v5'', sg'', lg''))) → v6.toInt < v6'.toInt → Ok (PIM MX12_betters s0 l0 0 1) (r25 (v1', v3', v4', v5', v6', sg', lg'))) : Ok (PIM MX12_betters s0 l0 0 1) (fX12_betters_160 r13 r25 v1 v3 v4 v5 v6 sg lg) := by
  unfold fX12_betters_160
  refine ok_lt (fun x1 ex1 => ?_)
  replace ex1 : x1.toInt = v6.toInt + 1 := by rw [ex1]; exact add_c 1 (by decide) (by omega) (by omega)
  exact hr25 v1 v3 v4 v5 x1 sg lg hS (by omega) (by omega) (by omega) (by omega) (by omega) (by omega) (by omega) (by omega) (by omega) hr13 (by omega)
set_option maxHeartbeats 4000000 in
theorem sX12_betters_150 {s0 : Sg} {l0 : Lg} {r13 : (Int64 × Int32 × Int32 × Int32 × Sg × Lg) → Option (Int32 × Sg × Lg)} {r25 : (Int64 × Int32 × Int32 × Int32 × Int32 × Sg × Lg) → Option (Int32 × Sg × Lg)} {v5 : Int32} {v6 : Int32} {v8 : Int64} {sg : Sg} {lg : Lg} (hS : StM MX12_betters s0 l0 sg lg) (v5l : 0 ≤ v5.toInt) (v5h : v5.toInt ≤ 11) (v6l : 0 ≤ v6.toInt) (v6h : v6.toInt ≤ 11) (hr13 : ∀ (v1' : Int64) (v3' : Int32) (v4' : Int32) (v5' : Int32) (sg' : Sg) (lg' : Lg), StM MX12_betters s0 l0 sg' lg' → (-1) ≤ v3'.toInt → v3'.toInt ≤ 11 → (-1) ≤ v4'.toInt → v4'.toInt ≤ 11 → 0 ≤ v5'.toInt → v5'.toInt ≤ 12 → (v3'.toInt = -1 ∨ 0 ≤ v4'.toInt) → v5.toInt < v5'.toInt → Ok (PIM MX12_betters s0 l0 0 1) (r13 (v1', v3', v4', v5', sg', lg'))) (hr25 : ∀ (v1' : Int64) (v3' : Int32) (v4' : Int32) (v5' : Int32) (v6' : Int32) (sg' : Sg) (lg' : Lg), StM MX12_betters s0 l0 sg' lg' → (-1) ≤ v3'.toInt → v3'.toInt ≤ 11 → (-1) ≤ v4'.toInt → v4'.toInt ≤ 11 → 0 ≤ v5'.toInt → v5'.toInt ≤ 11 → 0 ≤ v6'.toInt → v6'.toInt ≤ 12 → (v3'.toInt = -1 ∨ 0 ≤ v4'.toInt) → (∀ (v1'' : Int64) (v3'' : Int32) (v4'' : Int32) (v5'' : Int32) (sg'' : Sg) (lg'' : Lg), StM MX12_betters s0 l0 sg'' lg'' → (-1) ≤ v3''.toInt → v3''.toInt ≤ 11 → (-1) ≤ v4''.toInt → v4''.toInt ≤ 11 → 0 ≤ v5''.toInt → v5''.toInt ≤ 12 → (v3''.toInt = -1 ∨ 0 ≤ v4''.toInt) → v5'.toInt < v5''.toInt → Ok (PIM MX12_betters s0 l0 0 1) (r13 (v1'', v3'', v4'', v5'', sg'', lg''))) → v6.toInt < v6'.toInt → Ok (PIM MX12_betters s0 l0 0 1) (r25 (v1', v3', v4', v5', v6', sg', lg'))) : Ok (PIM MX12_betters s0 l0 0 1) (fX12_betters_150 r13 r25 v5 v6 v8 sg lg) := by
  unfold fX12_betters_150
  exact sX12_betters_160 hS (by omega) (by omega) (by omega) (by omega) (by omega) (by omega) (by omega) (by omega) (by omega) hr13 hr25
