/-! the flock of the reference: keep, empty, undo -/
theorem kLX12_keep_52 {s1 : Sg} {l1 : Lg} {K : Nat} (hK : (s1 0 2).toInt = K) (h7 : K ≤ 7) :
    Ok (fun (r : Sg × Lg) => r.2 = l1 ∧ (∀ k, k ≠ 0 → k ≠ 2 → r.1 k = s1 k) ∧ (∀ j, j ≠ 2 → r.1 0 j = s1 0 j) ∧ (r.1 0 2).toInt = (K : Int) + 1 ∧ ∀ i, r.1 2 i = if 193 * K ≤ i ∧ i < 193 * K + 193 then s1 1 (i - 193 * K) else s1 2 i) (LX12_keep_52 ((0 : Int32), s1, l1)) := by
  unfold LX12_keep_52
  refine ok_loop (I := fun (z : Int32 × Sg × Lg) => z.2.2 = l1 ∧ 0 ≤ z.1.toInt ∧ z.1.toInt ≤ 193 ∧ (∀ k, k ≠ 2 → z.2.1 k = s1 k) ∧ ∀ i, z.2.1 2 i = if 193 * K ≤ i ∧ i < 193 * K + z.1.toInt.toNat then s1 1 (i - 193 * K) else s1 2 i) (m := fun (z : Int32 × Sg × Lg) => (194 - z.1.toInt).toNat) _ ?_ ?_ _ ?_
  · intro z hz
    show (194 - z.1.toInt).toNat < 10000
    have := hz.2.1
    omega
  · intro rec z hz hrec
    obtain ⟨v1, sg, lg⟩ := z
    replace hz : lg = l1 ∧ 0 ≤ v1.toInt ∧ v1.toInt ≤ 193 ∧ (∀ k, k ≠ 2 → sg k = s1 k) ∧ ∀ i, sg 2 i = if 193 * K ≤ i ∧ i < 193 * K + v1.toInt.toNat then s1 1 (i - 193 * K) else s1 2 i := hz
    obtain ⟨e, h0, h1, h2, h3⟩ := hz
    subst e
    show Ok _ (fX12_keep_52 rec v1 sg lg)
    unfold fX12_keep_52
    have k193 : (193 : Int32).toInt = 193 := by decide
    have e02 : sg 0 2 = s1 0 2 := congrFun (h2 0 (by decide)) 2
    have e02' : (sg 0 2).toInt = K := by rw [e02]; exact hK
    refine ok_ite (fun c => ?_) (fun c => ?_)
    · replace c := i_le.mp c
      refine ok_lt (fun x2 ex2 => ?_)
      replace ex2 : x2.toInt = (sg 0 2).toInt + 1 := by rw [ex2]; exact add_c 1 (by decide) (by omega) (by omega)
      refine ok_lt (fun sg3 esg3 => ?_)
      refine ok_some ⟨rfl, fun k a b => ?_, fun j a => ?_, ?_, fun i => ?_⟩
      · show sg3 k = s1 k
        rw [esg3, up2_n a, h2 k b]
      · show sg3 0 j = s1 0 j
        rw [esg3, up2_is, if_neg (by omega), h2 0 (by decide)]
      · show (sg3 0 2).toInt = _
        rw [esg3, up2_is, if_pos ⟨rfl, rfl⟩]
        omega
      · show sg3 2 i = _
        rw [esg3, up2_n (by decide), h3 i, show v1.toInt.toNat = 193 by omega]
    · replace c := i_nle.mp c
      have f1 := mul_l (a := (193 : Int32)) (b := sg 0 2) 193 (by decide) (by omega) (by omega)
      have f2 := add_i (a := (193 : Int32) * (sg 0 2)) (b := v1) (by omega) (by omega)
      have g1 := cl_i (i := (193 : Int32) * (sg 0 2) + v1) (by omega)
      have g2 := cl_i h0
      refine ok_gin (by omega) (by omega) ?_
      refine ok_lt (fun x5 ex5 => ?_)
      refine ok_gin (by omega) (by omega) ?_
      refine ok_lt (fun sg7 esg7 => ?_)
      refine ok_lt (fun x8 ex8 => ?_)
      replace ex8 : x8.toInt = v1.toInt + 1 := by rw [ex8]; exact add_c 1 (by decide) (by omega) (by omega)
      refine hrec (x8, sg7, lg) ⟨rfl, by show 0 ≤ x8.toInt; omega, by show x8.toInt ≤ 193; omega, fun k a => ?_, fun i => ?_⟩ (show (194 - x8.toInt).toNat < (194 - v1.toInt).toNat by omega)
      · show sg7 k = s1 k
        rw [esg7, up2_n a, h2 k a]
      · show sg7 2 i = if 193 * K ≤ i ∧ i < 193 * K + x8.toInt.toNat then s1 1 (i - 193 * K) else s1 2 i
        rw [esg7, up2_is, ex5, h2 1 (by decide)]
        by_cases q : i = ((193 : Int32) * (sg 0 2) + v1).toNatClampNeg
        · rw [if_pos ⟨rfl, q⟩, if_pos (by omega)]
          exact congrArg (s1 1) (by omega)
        · rw [if_neg (fun z => q z.2), h3 i]
          by_cases q2 : 193 * K ≤ i ∧ i < 193 * K + v1.toInt.toNat
          · rw [if_pos q2, if_pos (by omega)]
          · rw [if_neg q2, if_neg (by omega)]
  · have k0 : (0 : Int32).toInt = 0 := by decide
    refine ⟨rfl, by show 0 ≤ (0 : Int32).toInt; omega, by show (0 : Int32).toInt ≤ 193; omega, fun k _ => rfl, fun i => ?_⟩
    show s1 2 i = if 193 * K ≤ i ∧ i < 193 * K + (0 : Int32).toInt.toNat then s1 1 (i - 193 * K) else s1 2 i
    rw [if_neg (by omega)]
theorem kLX12_keep_11 {s0 : Sg} {l1 : Lg} (hK : (s0 0 2).toInt = 8) :
    Ok (fun (r : Sg × Lg) => r.2 = l1 ∧ (∀ k, k ≠ 0 → k ≠ 2 → r.1 k = s0 k) ∧ (∀ j, j ≠ 2 → r.1 0 j = s0 0 j) ∧ (r.1 0 2).toInt = 8 ∧ ∀ i, r.1 2 i = if 1351 ≤ i ∧ i < 1544 then s0 1 (i - 1351) else if i < 1351 then s0 2 (i + 193) else s0 2 i) (LX12_keep_11 ((0 : Int32), s0, l1)) := by
  unfold LX12_keep_11
  refine ok_loop (I := fun (z : Int32 × Sg × Lg) => z.2.2 = l1 ∧ 0 ≤ z.1.toInt ∧ z.1.toInt ≤ 1351 ∧ (∀ k, k ≠ 2 → z.2.1 k = s0 k) ∧ ∀ i, z.2.1 2 i = if i < z.1.toInt.toNat then s0 2 (i + 193) else s0 2 i) (m := fun (z : Int32 × Sg × Lg) => (1352 - z.1.toInt).toNat) _ ?_ ?_ _ ?_
  · intro z hz
    show (1352 - z.1.toInt).toNat < 10000
    have := hz.2.1
    omega
  · intro rec z hz hrec
    obtain ⟨v1, sg, lg⟩ := z
    replace hz : lg = l1 ∧ 0 ≤ v1.toInt ∧ v1.toInt ≤ 1351 ∧ (∀ k, k ≠ 2 → sg k = s0 k) ∧ ∀ i, sg 2 i = if i < v1.toInt.toNat then s0 2 (i + 193) else s0 2 i := hz
    obtain ⟨e, h0, h1, h2, h3⟩ := hz
    subst e
    show Ok _ (fX12_keep_11 rec v1 sg lg)
    unfold fX12_keep_11
    have k193 : (193 : Int32).toInt = 193 := by decide
    have k1351 : (1351 : Int32).toInt = 1351 := by decide
    have e02 : sg 0 2 = s0 0 2 := congrFun (h2 0 (by decide)) 2
    have e02' : (sg 0 2).toInt = 8 := by rw [e02]; exact hK
    refine ok_ite (fun c => ?_) (fun c => ?_)
    · replace c := i_le.mp c
      refine ok_lt (fun x2 ex2 => ?_)
      replace ex2 : x2.toInt = (sg 0 2).toInt - 1 := by rw [ex2]; exact sub_c 1 (by decide) (by omega) (by omega)
      refine ok_lt (fun sg3 esg3 => ?_)
      unfold fX12_keep_50
      have e3 : (sg3 0 2).toInt = ((7 : Nat) : Int) := by
        rw [esg3, up2_is, if_pos ⟨rfl, rfl⟩]
        omega
      refine ok_mono (kLX12_keep_52 (s1 := sg3) (l1 := lg) e3 (by decide)) (fun r hr => ?_)
      obtain ⟨r1, r2, r3, r4, r5⟩ := hr
      refine ⟨r1, fun k a b => ?_, fun j a => ?_, ?_, fun i => ?_⟩
      · rw [r2 k a b, esg3, up2_n a, h2 k b]
      · rw [r3 j a, esg3, up2_is, if_neg (by omega), h2 0 (by decide)]
      · omega
      · rw [r5 i, show 193 * 7 = 1351 by decide, show 1351 + 193 = 1544 by decide]
        by_cases q : 1351 ≤ i ∧ i < 1544
        · rw [if_pos q, if_pos q, esg3, up2_n (by decide), h2 1 (by decide)]
        · rw [if_neg q, if_neg q, esg3, up2_n (by decide), h3 i, show v1.toInt.toNat = 1351 by omega]
    · replace c := i_nle.mp c
      refine ok_lt (fun x4 ex4 => ?_)
      replace ex4 : x4.toInt = v1.toInt + 193 := by rw [ex4]; exact add_c 193 (by decide) (by omega) (by omega)
      have g1 := cl_i (i := x4) (by omega)
      have g2 := cl_i h0
      refine ok_gin (by omega) (by omega) ?_
      refine ok_lt (fun x6 ex6 => ?_)
      refine ok_gin (by omega) (by omega) ?_
      refine ok_lt (fun sg8 esg8 => ?_)
      refine ok_lt (fun x9 ex9 => ?_)
      replace ex9 : x9.toInt = v1.toInt + 1 := by rw [ex9]; exact add_c 1 (by decide) (by omega) (by omega)
      refine hrec (x9, sg8, lg) ⟨rfl, by show 0 ≤ x9.toInt; omega, by show x9.toInt ≤ 1351; omega, fun k a => ?_, fun i => ?_⟩ (show (1352 - x9.toInt).toNat < (1352 - v1.toInt).toNat by omega)
      · show sg8 k = s0 k
        rw [esg8, up2_n a, h2 k a]
      · show sg8 2 i = if i < x9.toInt.toNat then s0 2 (i + 193) else s0 2 i
        rw [esg8, up2_is, ex6]
        by_cases q : i = v1.toNatClampNeg
        · rw [if_pos ⟨rfl, q⟩, if_pos (by omega), h3 x4.toNatClampNeg, if_neg (by omega)]
          exact congrArg (s0 2) (by omega)
        · rw [if_neg (fun z => q z.2), h3 i]
          by_cases q2 : i < v1.toInt.toNat
          · rw [if_pos q2, if_pos (by omega)]
          · rw [if_neg q2, if_neg (by omega)]
  · have k0 : (0 : Int32).toInt = 0 := by decide
    refine ⟨rfl, by show 0 ≤ (0 : Int32).toInt; omega, by show (0 : Int32).toInt ≤ 1351; omega, fun k _ => rfl, fun i => ?_⟩
    show s0 2 i = if i < (0 : Int32).toInt.toNat then s0 2 (i + 193) else s0 2 i
    rw [if_neg (by omega)]
/-- the flock so many changes ago -/
def hist (sm : Sg) : Nat → Nat → Int32
  | 0 => sm 1
  | d + 1 => fun j => sm 2 (193 * ((sm 0 2).toInt.toNat - 1 - d) + j)
def KP (sm : Sg) (lm : Lg) (r : Sg × Lg) : Prop := r.2 = lm ∧ (∀ k, k ≠ 0 → k ≠ 2 → r.1 k = sm k) ∧ (∀ j, j ≠ 2 → r.1 0 j = sm 0 j) ∧ (r.1 0 2).toInt = (if (sm 0 2).toInt = 8 then 8 else (sm 0 2).toInt + 1) ∧ ∀ d j, j < 193 → d + 1 ≤ (r.1 0 2).toInt.toNat → hist r.1 (d + 1) j = hist sm d j
theorem k_keep {sm : Sg} {lm : Lg} (h0 : 0 ≤ (sm 0 2).toInt) (h8 : (sm 0 2).toInt ≤ 8) : Ok (KP sm lm) (fX12_keep sm lm) := by
  unfold fX12_keep
  have k8 : (8 : Int32).toInt = 8 := by decide
  refine ok_ite (fun c => ?_) (fun c => ?_)
  · replace c := i_eq.mp c
    refine ok_mono (kLX12_keep_11 (s0 := sm) (l1 := lm) (by omega)) (fun r hr => ?_)
    obtain ⟨r1, r2, r3, r4, r5⟩ := hr
    refine ⟨r1, r2, r3, by rw [if_pos (by omega)]; exact r4, fun d j hj hd => ?_⟩
    show r.1 2 (193 * ((r.1 0 2).toInt.toNat - 1 - d) + j) = hist sm d j
    rw [r5]
    cases d with
    | zero =>
      rw [if_pos (by omega)]
      exact congrArg (sm 1) (by omega)
    | succ d =>
      rw [if_neg (by omega), if_pos (by omega)]
      exact congrArg (sm 2) (by omega)
  · replace c := i_ne.mp c
    unfold fX12_keep_50
    have hK : (sm 0 2).toInt = ((sm 0 2).toInt.toNat : Int) := by omega
    refine ok_mono (kLX12_keep_52 (s1 := sm) (l1 := lm) hK (by omega)) (fun r hr => ?_)
    obtain ⟨r1, r2, r3, r4, r5⟩ := hr
    refine ⟨r1, r2, r3, by rw [if_neg (by omega)]; omega, fun d j hj hd => ?_⟩
    show r.1 2 (193 * ((r.1 0 2).toInt.toNat - 1 - d) + j) = hist sm d j
    rw [r5]
    cases d with
    | zero =>
      rw [if_pos (by omega)]
      exact congrArg (sm 1) (by omega)
    | succ d =>
      rw [if_neg (by omega)]
      exact congrArg (sm 2) (by omega)
/-- empty: a row of zeros, and its width -/
theorem k_empty {v1 v2 : Int32} {sm : Sg} {lm : Lg} (h0 : 0 ≤ v1.toInt) (h1 : v1.toInt ≤ 11) : Ok (fun r => r.2 = lm ∧ (∀ k, k ≠ 1 → r.1 k = sm k) ∧ ∀ i, r.1 1 i = if 49 + 12 * v1.toNatClampNeg ≤ i ∧ i < 49 + 12 * v1.toNatClampNeg + 12 then 0 else if i = 37 + v1.toNatClampNeg then v2 else sm 1 i) (fX12_empty v1 v2 sm lm) := by
  unfold fX12_empty
  have hc := cl_i h0
  have k37 : (37 : Int32).toInt = ((37 : Nat) : Int) := by decide
  have i37 := ix_add (c := (37 : Int32)) (v := v1) 37 k37 (by decide) h0 (by omega)
  refine ok_gin (by omega) (by omega) ?_
  refine ok_lt (fun sg2 esg2 => ?_)
  unfold LX12_empty_12
  refine ok_loop (I := fun (z : Int32 × Int32 × Sg × Lg) => z.1 = v1 ∧ z.2.2.2 = lm ∧ 0 ≤ z.2.1.toInt ∧ z.2.1.toInt ≤ 12 ∧ (∀ k, k ≠ 1 → z.2.2.1 k = sm k) ∧ ∀ i, z.2.2.1 1 i = if 49 + 12 * v1.toNatClampNeg ≤ i ∧ i < 49 + 12 * v1.toNatClampNeg + z.2.1.toInt.toNat then 0 else if i = 37 + v1.toNatClampNeg then v2 else sm 1 i) (m := fun (z : Int32 × Int32 × Sg × Lg) => (13 - z.2.1.toInt).toNat) _ ?_ ?_ _ ?_
  · intro z hz
    show (13 - z.2.1.toInt).toNat < 10000
    have := hz.2.2.1
    omega
  · intro rec z hz hrec
    obtain ⟨v, v3, sg, lg⟩ := z
    replace hz : v = v1 ∧ lg = lm ∧ 0 ≤ v3.toInt ∧ v3.toInt ≤ 12 ∧ (∀ k, k ≠ 1 → sg k = sm k) ∧ ∀ i, sg 1 i = if 49 + 12 * v1.toNatClampNeg ≤ i ∧ i < 49 + 12 * v1.toNatClampNeg + v3.toInt.toNat then 0 else if i = 37 + v1.toNatClampNeg then v2 else sm 1 i := hz
    obtain ⟨e1, e2, q0, q1, q2, q3⟩ := hz
    subst e1 e2
    show Ok _ (fX12_empty_12 rec v v3 sg lg)
    unfold fX12_empty_12
    have k12 : (12 : Int32).toInt = 12 := by decide
    refine ok_ite (fun c => ?_) (fun c => ?_)
    · replace c := i_le.mp c
      refine ok_some ⟨rfl, q2, fun i => ?_⟩
      show sg 1 i = _
      rw [q3 i, show v3.toInt.toNat = 12 by omega]
    · replace c := i_nle.mp c
      have iw := ix_w (v1 := v) (v2 := v3) h0 h1 q0 q1
      have g3 := cl_i q0
      refine ok_gin (by omega) (by omega) ?_
      refine ok_lt (fun sg3 esg3 => ?_)
      refine ok_lt (fun x4 ex4 => ?_)
      replace ex4 : x4.toInt = v3.toInt + 1 := by rw [ex4]; exact add_c 1 (by decide) (by omega) (by omega)
      refine hrec (v, x4, sg3, lg) ⟨rfl, rfl, by show 0 ≤ x4.toInt; omega, by show x4.toInt ≤ 12; omega, fun k a => ?_, fun i => ?_⟩ (show (13 - x4.toInt).toNat < (13 - v3.toInt).toNat by omega)
      · show sg3 k = sm k
        rw [esg3, up2_n a, q2 k a]
      · show sg3 1 i = if 49 + 12 * v.toNatClampNeg ≤ i ∧ i < 49 + 12 * v.toNatClampNeg + x4.toInt.toNat then 0 else if i = 37 + v.toNatClampNeg then v2 else sm 1 i
        rw [esg3, up2_is]
        by_cases q : i = (((49 : Int32) + ((12 : Int32) * v)) + v3).toNatClampNeg
        · rw [if_pos ⟨rfl, q⟩, if_pos (by omega)]
        · rw [if_neg (fun z => q z.2), q3 i]
          by_cases w : 49 + 12 * v.toNatClampNeg ≤ i ∧ i < 49 + 12 * v.toNatClampNeg + v3.toInt.toNat
          · rw [if_pos w, if_pos (by omega)]
          · rw [if_neg w, if_neg (show ¬ (49 + 12 * v.toNatClampNeg ≤ i ∧ i < 49 + 12 * v.toNatClampNeg + x4.toInt.toNat) by omega)]
  · have k0 : (0 : Int32).toInt = 0 := by decide
    refine ⟨rfl, rfl, by show 0 ≤ (0 : Int32).toInt; omega, by show (0 : Int32).toInt ≤ 12; omega, fun k a => ?_, fun i => ?_⟩
    · show sg2 k = sm k
      rw [esg2, up2_n a]
    · show sg2 1 i = if 49 + 12 * v1.toNatClampNeg ≤ i ∧ i < 49 + 12 * v1.toNatClampNeg + (0 : Int32).toInt.toNat then 0 else if i = 37 + v1.toNatClampNeg then v2 else sm 1 i
      rw [if_neg (by omega), esg2, up2_is, i37.1]
      by_cases q : i = 37 + v1.toNatClampNeg
      · rw [if_pos ⟨rfl, q⟩, if_pos q]
      · rw [if_neg (fun z => q z.2), if_neg q]
theorem k_undo {sm : Sg} {lm : Lg} (h1 : 1 ≤ (sm 0 2).toInt) (h8 : (sm 0 2).toInt ≤ 8) : Ok (fun r => r.1.toInt = (sm 0 2).toInt - 1 ∧ r.2.2 = lm ∧ (∀ k, k ≠ 0 → k ≠ 1 → r.2.1 k = sm k) ∧ (∀ j, j ≠ 2 → r.2.1 0 j = sm 0 j) ∧ (r.2.1 0 2).toInt = (sm 0 2).toInt - 1 ∧ r.1 = (r.2.1 0 2).toInt64 ∧ ∀ i, r.2.1 1 i = if i < 193 then hist sm 1 i else sm 1 i) (fX12_undo sm lm) := by
  unfold fX12_undo
  have k0 : (0 : Int32).toInt = 0 := by decide
  rw [if_neg (fun z => by have := i_eq.mp z; omega)]
  refine ok_lt (fun x2 ex2 => ?_)
  replace ex2 : x2.toInt = (sm 0 2).toInt - 1 := by rw [ex2]; exact sub_c 1 (by decide) (by omega) (by omega)
  refine ok_lt (fun sg3 esg3 => ?_)
  have e3 : (sg3 0 2).toInt = (sm 0 2).toInt - 1 := by
    rw [esg3, up2_is, if_pos ⟨rfl, rfl⟩]; exact ex2
  unfold LX12_undo_23
  refine ok_loop (I := fun (z : Int32 × Sg × Lg) => z.2.2 = lm ∧ 0 ≤ z.1.toInt ∧ z.1.toInt ≤ 193 ∧ (∀ k, k ≠ 1 → z.2.1 k = sg3 k) ∧ ∀ i, z.2.1 1 i = if i < z.1.toInt.toNat then hist sm 1 i else sm 1 i) (m := fun (z : Int32 × Sg × Lg) => (194 - z.1.toInt).toNat) _ ?_ ?_ _ ?_
  · intro z hz
    show (194 - z.1.toInt).toNat < 10000
    have := hz.2.1
    omega
  · intro rec z hz hrec
    obtain ⟨v1, sg, lg⟩ := z
    replace hz : lg = lm ∧ 0 ≤ v1.toInt ∧ v1.toInt ≤ 193 ∧ (∀ k, k ≠ 1 → sg k = sg3 k) ∧ ∀ i, sg 1 i = if i < v1.toInt.toNat then hist sm 1 i else sm 1 i := hz
    obtain ⟨e, q0, q1, q2, q3⟩ := hz
    subst e
    show Ok _ (fX12_undo_23 rec v1 sg lg)
    unfold fX12_undo_23
    have k193 : (193 : Int32).toInt = 193 := by decide
    have e02 : (sg 0 2).toInt = (sm 0 2).toInt - 1 := by rw [q2 0 (by decide)]; exact e3
    refine ok_ite (fun c => ?_) (fun c => ?_)
    · replace c := i_le.mp c
      refine ok_some ⟨?_, rfl, fun k a b => ?_, fun j a => ?_, e02, rfl, fun i => ?_⟩
      · show (sg 0 2).toInt64.toInt = _
        rw [Int32.toInt_toInt64]; exact e02
      · show sg k = sm k
        rw [q2 k b, esg3, up2_n a]
      · show sg 0 j = sm 0 j
        rw [q2 0 (by decide), esg3, up2_is, if_neg (by omega)]
      · show sg 1 i = _
        rw [q3 i, show v1.toInt.toNat = 193 by omega]
    · replace c := i_nle.mp c
      have f1 := mul_l (a := (193 : Int32)) (b := sg 0 2) 193 (by decide) (by omega) (by omega)
      have f2 := add_i (a := (193 : Int32) * (sg 0 2)) (b := v1) (by omega) (by omega)
      refine ok_lt (fun y2 ey2 => ?_)
      have ey : y2.toInt = 193 * (sg 0 2).toInt + v1.toInt := by rw [ey2]; omega
      have g1 := cl_i (i := y2) (by omega)
      have g2 := cl_i q0
      refine ok_gin (by omega) (by omega) ?_
      refine ok_lt (fun x4 ex4 => ?_)
      refine ok_gin (by omega) (by omega) ?_
      refine ok_lt (fun sg6 esg6 => ?_)
      refine ok_lt (fun x7 ex7 => ?_)
      replace ex7 : x7.toInt = v1.toInt + 1 := by rw [ex7]; exact add_c 1 (by decide) (by omega) (by omega)
      refine hrec (x7, sg6, lg) ⟨rfl, by show 0 ≤ x7.toInt; omega, by show x7.toInt ≤ 193; omega, fun k a => ?_, fun i => ?_⟩ (show (194 - x7.toInt).toNat < (194 - v1.toInt).toNat by omega)
      · show sg6 k = sg3 k
        rw [esg6, up2_n a, q2 k a]
      · show sg6 1 i = if i < x7.toInt.toNat then hist sm 1 i else sm 1 i
        rw [esg6, up2_is, ex4]
        by_cases q : i = v1.toNatClampNeg
        · rw [if_pos ⟨rfl, q⟩, if_pos (by omega), q2 2 (by decide), esg3, up2_n (by decide)]
          exact congrArg (sm 2) (show y2.toNatClampNeg = 193 * ((sm 0 2).toInt.toNat - 1 - 0) + i by omega)
        · rw [if_neg (fun z => q z.2), q3 i]
          by_cases w : i < v1.toInt.toNat
          · rw [if_pos w, if_pos (by omega)]
          · rw [if_neg w, if_neg (by omega)]
  · refine ⟨rfl, by show 0 ≤ (0 : Int32).toInt; omega, by show (0 : Int32).toInt ≤ 193; omega, fun k a => rfl, fun i => ?_⟩
    show sg3 1 i = if i < (0 : Int32).toInt.toNat then hist sm 1 i else sm 1 i
    rw [if_neg (by omega), esg3, up2_n (by decide)]
