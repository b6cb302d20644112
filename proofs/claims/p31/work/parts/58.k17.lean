/-! the weight of a hand -/
def W1 (P : Nat → Nat → Int) (i : Nat) : Nat → Int
  | 0 => 0
  | k + 1 => W1 P i k + P i k
def WT (P : Nat → Nat → Int) : Nat → Int
  | 0 => 0
  | i + 1 => WT P i + W1 P i i
theorem W1_bd {P : Nat → Nat → Int} {i : Nat} : ∀ k, (∀ t, t < k → 0 ≤ P i t ∧ P i t ≤ 1000000) → 0 ≤ W1 P i k ∧ W1 P i k ≤ 1000000 * (k : Int)
  | 0, _ => ⟨Int.le_refl _, Int.le_refl _⟩
  | k + 1, h => by
    have ih := W1_bd (i := i) k (fun t ht => h t (by omega))
    have hk := h k (by omega)
    unfold W1
    omega
theorem WT_bd {P : Nat → Nat → Int} : ∀ m, m ≤ 12 → (∀ i t, i < m → t < i → 0 ≤ P i t ∧ P i t ≤ 1000000) → 0 ≤ WT P m ∧ WT P m ≤ 12000000 * (m : Int)
  | 0, _, _ => ⟨Int.le_refl _, Int.le_refl _⟩
  | m + 1, hm, h => by
    have ih := WT_bd m (by omega) (fun i t a b => h i t (by omega) b)
    have w := W1_bd (P := P) (i := m) m (fun t ht => h m t (by omega) ht)
    unfold WT
    omega
theorem W1_cg {P Q : Nat → Nat → Int} {i : Nat} : ∀ k, (∀ t, t < k → P i t = Q i t) → W1 P i k = W1 Q i k
  | 0, _ => rfl
  | k + 1, h => by
    unfold W1
    rw [W1_cg k (fun t ht => h t (by omega)), h k (by omega)]
theorem WT_cg {P Q : Nat → Nat → Int} : ∀ m, (∀ i t, i < m → t < i → P i t = Q i t) → WT P m = WT Q m
  | 0, _ => rfl
  | m + 1, h => by
    unfold WT
    rw [WT_cg m (fun i t a b => h i t (by omega) b), W1_cg m (fun t ht => h m t (by omega) ht)]
/-- pecks between places, in the reference -/
def Pm (sm : Sg) (i k : Nat) : Int := (sm 1 (49 + 12 * hp sm i + hp sm k)).toInt
theorem Pm_bd {sm : Sg} {lm : Lg} (hM : IM sm lm) (i k : Nat) : 0 ≤ Pm sm i k ∧ Pm sm i k ≤ 1000000 := by
  have a := (hp_lt hM i).1
  have b := (hp_lt hM k).1
  exact hM.2.2.2.2.2 _ (by omega) (by omega)
set_option maxHeartbeats 4000000 in
theorem m_weight {sm : Sg} {lm : Lg} (hM : IM sm lm) : Ok (fun q => q.2 = (sm, lm) ∧ q.1.toInt = WT (Pm sm) (sm 0 4).toInt.toNat) (fX12_weightNow sm lm) := by
  have k0 : (0 : Int32).toInt = 0 := by decide
  have j0 : (0 : Int64).toInt = 0 := by decide
  have q4 := rdM0_4 hM
  unfold fX12_weightNow LX12_weightNow_4
  refine ok_loop (I := fun (q : Int64 × Int32 × Sg × Lg) => q.2.2 = (sm, lm) ∧ 0 ≤ q.2.1.toInt ∧ q.2.1.toInt ≤ (sm 0 4).toInt ∧ q.1.toInt = WT (Pm sm) q.2.1.toInt.toNat) (m := fun (q : Int64 × Int32 × Sg × Lg) => (13 - q.2.1.toInt).toNat) _ ?_ ?_ _ ?_
  · intro q hq
    have := hq.2.1
    show (13 - q.2.1.toInt).toNat < 10000
    omega
  · intro rec q hq hrec
    obtain ⟨v1, v3, s, l⟩ := q
    replace hq : (s, l) = (sm, lm) ∧ 0 ≤ v3.toInt ∧ v3.toInt ≤ (sm 0 4).toInt ∧ v1.toInt = WT (Pm sm) v3.toInt.toNat := hq
    obtain ⟨a2, q0, q1, q2⟩ := hq
    obtain ⟨b1, b2⟩ := Prod.mk.inj a2
    subst b1 b2
    show Ok _ (fX12_weightNow_4 rec v1 v3 s l)
    unfold fX12_weightNow_4
    have hc := cl_i q0
    refine ok_ite (fun c => ?_) (fun c => ?_)
    · replace c := i_le.mp c
      refine ok_some ⟨rfl, ?_⟩
      show v1.toInt = _
      rw [q2, show v3.toInt.toNat = (s 0 4).toInt.toNat by omega]
    · replace c := i_nle.mp c
      have wb := WT_bd (P := Pm s) v3.toInt.toNat (by omega) (fun i t _ _ => Pm_bd hM i t)
      unfold LX12_weightNow_15
      refine ok_loop (I := fun (q : Int64 × Int32 × Int32 × Sg × Lg) => q.2.1 = v3 ∧ q.2.2.2 = (s, l) ∧ 0 ≤ q.2.2.1.toInt ∧ q.2.2.1.toInt ≤ v3.toInt ∧ q.1.toInt = WT (Pm s) v3.toInt.toNat + W1 (Pm s) v3.toInt.toNat q.2.2.1.toInt.toNat) (m := fun (q : Int64 × Int32 × Int32 × Sg × Lg) => (13 - q.2.2.1.toInt).toNat) _ ?_ ?_ _ ?_
      · intro q hq
        have := hq.2.2.1
        show (13 - q.2.2.1.toInt).toNat < 10000
        omega
      · intro rec2 q hq hrec2
        obtain ⟨w1, p3, v4, s', l'⟩ := q
        replace hq : p3 = v3 ∧ (s', l') = (s, l) ∧ 0 ≤ v4.toInt ∧ v4.toInt ≤ v3.toInt ∧ w1.toInt = WT (Pm s) v3.toInt.toNat + W1 (Pm s) v3.toInt.toNat v4.toInt.toNat := hq
        obtain ⟨a1, a2, r0, r1, r2⟩ := hq
        obtain ⟨b1, b2⟩ := Prod.mk.inj a2
        rw [a1, b1, b2]
        show Ok _ (fX12_weightNow_15 rec rec2 w1 v3 v4 s l)
        unfold fX12_weightNow_15
        have hc4 := cl_i r0
        refine ok_ite (fun d => ?_) (fun d => ?_)
        · replace d := i_le.mp d
          refine ok_lt (fun x2 e2 => ?_)
          replace e2 : x2.toInt = v3.toInt + 1 := by rw [e2]; exact add_c 1 (by decide) (by omega) (by omega)
          refine hrec (w1, x2, s, l) ⟨rfl, by show 0 ≤ x2.toInt; omega, by show x2.toInt ≤ (s 0 4).toInt; omega, ?_⟩ (show (13 - x2.toInt).toNat < (13 - v3.toInt).toNat by omega)
          show w1.toInt = WT (Pm s) x2.toInt.toNat
          rw [show x2.toInt.toNat = v3.toInt.toNat + 1 by omega, r2, show v4.toInt.toNat = v3.toInt.toNat by omega]
          rfl
        · replace d := i_nle.mp d
          have wb1 := W1_bd (P := Pm s) (i := v3.toInt.toNat) v4.toInt.toNat (fun t _ => Pm_bd hM _ t)
          have pb := Pm_bd hM v3.toInt.toNat v4.toInt.toNat
          have ra := rdM3 hM (j := v3.toNatClampNeg)
          have rb := rdM3 hM (j := v4.toNatClampNeg)
          refine ok_gin (by omega) (by omega) ?_
          refine ok_gin (by omega) (by omega) ?_
          have ca := cl_i ra.1
          have cb' := cl_i rb.1
          refine bnd3_of (peckOf_is ra.1 ra.2 rb.1 (by omega)) ?_
          refine ok_lt (fun x9 e9 => ?_)
          refine ok_lt (fun x10 e10 => ?_)
          replace e10 : x10.toInt = v4.toInt + 1 := by rw [e10]; exact add_c 1 (by decide) (by omega) (by omega)
          have ep : (s 1 (49 + 12 * (s 3 v3.toNatClampNeg).toNatClampNeg + (s 3 v4.toNatClampNeg).toNatClampNeg)).toInt = Pm s v3.toInt.toNat v4.toInt.toNat := by
            unfold Pm hp
            rw [show v3.toInt.toNat = v3.toNatClampNeg by omega, show v4.toInt.toNat = v4.toNatClampNeg by omega, show (s 3 v3.toNatClampNeg).toInt.toNat = (s 3 v3.toNatClampNeg).toNatClampNeg by omega, show (s 3 v4.toNatClampNeg).toInt.toNat = (s 3 v4.toNatClampNeg).toNatClampNeg by omega]
          refine hrec2 (x9, v3, x10, s, l) ⟨rfl, rfl, by show 0 ≤ x10.toInt; omega, by show x10.toInt ≤ v3.toInt; omega, ?_⟩ (show (13 - x10.toInt).toNat < (13 - v4.toInt).toNat by omega)
          show x9.toInt = WT (Pm s) v3.toInt.toNat + W1 (Pm s) v3.toInt.toNat x10.toInt.toNat
          rw [show x10.toInt.toNat = v4.toInt.toNat + 1 by omega, e9, add64b (by rw [Int32.toInt_toInt64, ep]; omega) (by rw [Int32.toInt_toInt64, ep]; omega), Int32.toInt_toInt64, ep, r2]
          show _ = WT (Pm s) v3.toInt.toNat + (W1 (Pm s) v3.toInt.toNat v4.toInt.toNat + Pm s v3.toInt.toNat v4.toInt.toNat)
          omega
      · refine ⟨rfl, rfl, by show 0 ≤ (0 : Int32).toInt; omega, by show (0 : Int32).toInt ≤ v3.toInt; omega, ?_⟩
        show v1.toInt = WT (Pm s) v3.toInt.toNat + W1 (Pm s) v3.toInt.toNat (0 : Int32).toInt.toNat
        rw [k0, q2]
        show _ = _ + (0 : Int)
        omega
  · refine ⟨rfl, by show 0 ≤ (0 : Int32).toInt; omega, by show (0 : Int32).toInt ≤ (sm 0 4).toInt; omega, ?_⟩
    show (0 : Int64).toInt = WT (Pm sm) (0 : Int32).toInt.toNat
    rw [k0, j0]
    rfl
/-- pecks between places of the line -/
def Px (s : Sg) (i k : Nat) : Int := pk s (s 32 i).toInt.toNat (s 32 k).toInt.toNat
set_option maxHeartbeats 4000000 in
theorem c_weight {sg : Sg} (hI : IC0 sg) : Ok (fun q => q.2 = sg ∧ q.1.toInt = WT (Px sg) (sg 3 2).toInt.toNat) (fX7_upsetWeight sg) := by
  have k0 : (0 : Int32).toInt = 0 := by decide
  have k1 : (1 : Int32).toInt = 1 := by decide
  have j0 : (0 : Int64).toInt = 0 := by decide
  have q4 := rdC3_2 hI
  have pbd : ∀ i k, 0 ≤ Px sg i k ∧ Px sg i k ≤ 1000000 := fun i k => rdC23 hI
  unfold fX7_upsetWeight LX7_upsetWeight_4
  refine ok_loop (I := fun (q : Int64 × Int32 × Sg) => q.2.2 = sg ∧ 1 ≤ q.2.1.toInt ∧ (q.2.1.toInt ≤ (sg 3 2).toInt ∨ q.2.1.toInt = 1) ∧ q.1.toInt = WT (Px sg) q.2.1.toInt.toNat) (m := fun (q : Int64 × Int32 × Sg) => (13 - q.2.1.toInt).toNat) _ ?_ ?_ _ ?_
  · intro q hq
    have := hq.2.1
    show (13 - q.2.1.toInt).toNat < 10000
    omega
  · intro rec q hq hrec
    obtain ⟨v1, v3, s⟩ := q
    replace hq : s = sg ∧ 1 ≤ v3.toInt ∧ (v3.toInt ≤ (sg 3 2).toInt ∨ v3.toInt = 1) ∧ v1.toInt = WT (Px sg) v3.toInt.toNat := hq
    obtain ⟨a2, q0, q1, q2⟩ := hq
    subst a2
    show Ok _ (fX7_upsetWeight_4 rec v1 v3 s)
    unfold fX7_upsetWeight_4
    have hc := cl_i (i := v3) (by omega)
    refine ok_ite (fun c => ?_) (fun c => ?_)
    · replace c := i_le.mp c
      refine ok_some ⟨rfl, ?_⟩
      show v1.toInt = _
      rw [q2]
      by_cases w : (s 3 2).toInt = 0
      · rw [show v3.toInt.toNat = 1 by omega, show (s 3 2).toInt.toNat = 0 by omega]
        rfl
      · rw [show v3.toInt.toNat = (s 3 2).toInt.toNat by omega]
    · replace c := i_nle.mp c
      have wb := WT_bd (P := Px s) v3.toInt.toNat (by omega) (fun i t _ _ => pbd i t)
      unfold LX7_upsetWeight_18
      refine ok_loop (I := fun (q : Int64 × Int32 × Int32 × Sg) => q.2.1 = v3 ∧ q.2.2.2 = s ∧ 0 ≤ q.2.2.1.toInt ∧ q.2.2.1.toInt ≤ v3.toInt ∧ q.1.toInt = WT (Px s) v3.toInt.toNat + W1 (Px s) v3.toInt.toNat q.2.2.1.toInt.toNat) (m := fun (q : Int64 × Int32 × Int32 × Sg) => (13 - q.2.2.1.toInt).toNat) _ ?_ ?_ _ ?_
      · intro q hq
        have := hq.2.2.1
        show (13 - q.2.2.1.toInt).toNat < 10000
        omega
      · intro rec2 q hq hrec2
        obtain ⟨w1, p3, v4, s'⟩ := q
        replace hq : p3 = v3 ∧ s' = s ∧ 0 ≤ v4.toInt ∧ v4.toInt ≤ v3.toInt ∧ w1.toInt = WT (Px s) v3.toInt.toNat + W1 (Px s) v3.toInt.toNat v4.toInt.toNat := hq
        obtain ⟨a1, a2, r0, r1, r2⟩ := hq
        rw [a1, a2]
        show Ok _ (fX7_upsetWeight_18 rec rec2 w1 v3 v4 s)
        unfold fX7_upsetWeight_18
        have hc4 := cl_i r0
        refine ok_ite (fun d => ?_) (fun d => ?_)
        · replace d := i_le.mp d
          refine ok_lt (fun x2 e2 => ?_)
          replace e2 : x2.toInt = v3.toInt + 1 := by rw [e2]; exact add_c 1 (by decide) (by omega) (by omega)
          refine hrec (w1, x2, s) ⟨rfl, by show 1 ≤ x2.toInt; omega, by show x2.toInt ≤ (s 3 2).toInt ∨ x2.toInt = 1; omega, ?_⟩ (show (13 - x2.toInt).toNat < (13 - v3.toInt).toNat by omega)
          show w1.toInt = WT (Px s) x2.toInt.toNat
          rw [show x2.toInt.toNat = v3.toInt.toNat + 1 by omega, r2, show v4.toInt.toNat = v3.toInt.toNat by omega]
          rfl
        · replace d := i_nle.mp d
          have wb1 := W1_bd (P := Px s) (i := v3.toInt.toNat) v4.toInt.toNat (fun t _ => pbd _ t)
          have pb := pbd v3.toInt.toNat v4.toInt.toNat
          have ra := rdC32 hI (j := v3.toNatClampNeg)
          have rb := rdC32 hI (j := v4.toNatClampNeg)
          refine ok_gin (by omega) (by omega) ?_
          refine ok_gin (by omega) (by omega) ?_
          have ca := cl_i ra.1
          have cb' := cl_i rb.1
          refine bnd2_of (peckOf_c ra.1 ra.2 rb.1 rb.2) ?_
          refine ok_lt (fun x9 e9 => ?_)
          refine ok_lt (fun x10 e10 => ?_)
          replace e10 : x10.toInt = v4.toInt + 1 := by rw [e10]; exact add_c 1 (by decide) (by omega) (by omega)
          have ep : (s 23 (12 * (s 32 v3.toNatClampNeg).toNatClampNeg + (s 32 v4.toNatClampNeg).toNatClampNeg)).toInt = Px s v3.toInt.toNat v4.toInt.toNat := by
            unfold Px pk
            rw [show v3.toInt.toNat = v3.toNatClampNeg by omega, show v4.toInt.toNat = v4.toNatClampNeg by omega, show (s 32 v3.toNatClampNeg).toInt.toNat = (s 32 v3.toNatClampNeg).toNatClampNeg by omega, show (s 32 v4.toNatClampNeg).toInt.toNat = (s 32 v4.toNatClampNeg).toNatClampNeg by omega]
          refine hrec2 (x9, v3, x10, s) ⟨rfl, rfl, by show 0 ≤ x10.toInt; omega, by show x10.toInt ≤ v3.toInt; omega, ?_⟩ (show (13 - x10.toInt).toNat < (13 - v4.toInt).toNat by omega)
          show x9.toInt = WT (Px s) v3.toInt.toNat + W1 (Px s) v3.toInt.toNat x10.toInt.toNat
          rw [show x10.toInt.toNat = v4.toInt.toNat + 1 by omega, e9, add64b (by rw [Int32.toInt_toInt64, ep]; omega) (by rw [Int32.toInt_toInt64, ep]; omega), Int32.toInt_toInt64, ep, r2]
          show _ = WT (Px s) v3.toInt.toNat + (W1 (Px s) v3.toInt.toNat v4.toInt.toNat + Px s v3.toInt.toNat v4.toInt.toNat)
          omega
      · refine ⟨rfl, rfl, by show 0 ≤ (0 : Int32).toInt; omega, by show (0 : Int32).toInt ≤ v3.toInt; omega, ?_⟩
        show v1.toInt = WT (Px s) v3.toInt.toNat + W1 (Px s) v3.toInt.toNat (0 : Int32).toInt.toNat
        rw [k0, q2]
        show _ = _ + (0 : Int)
        omega
  · refine ⟨rfl, by show 1 ≤ (1 : Int32).toInt; omega, by show (1 : Int32).toInt ≤ (sg 3 2).toInt ∨ (1 : Int32).toInt = 1; omega, ?_⟩
    show (0 : Int64).toInt = WT (Px sg) (1 : Int32).toInt.toNat
    rw [k1, j0]
    rfl
/-! weight -/
theorem hd_cg {sx sm sx' sm' : Sg} (h : HD sx sm) (e5 : sx' 5 = sx 5) (e31 : sx' 31 = sx 31) (e04 : sm' 0 4 = sm 0 4) (e3 : sm' 3 = sm 3) : HD sx' sm' := by
  refine ⟨⟨by rw [e5, e04]; exact h.1.1, fun i hi => ?_⟩, fun i j a b => ?_⟩
  · rw [e5] at hi
    rw [e31, e3]; exact h.1.2 i hi
  · rw [e04] at b
    rw [e3]; exact h.2 i j a b
/-- a line is the hand, by slots -/
theorem px_pm {s sm : Sg} {lm : Lg} (hI : IC0 s) (hM : MC s) (hMm : IM sm lm) (hF : FEq s (sm 1)) (hd : HD s sm) (hl : LRd s) {i k : Nat} (hi : (i : Int) < (s 5 0).toInt) (hk : (k : Int) < (s 5 0).toInt) : Px s i k = Pm sm i k := by
  obtain ⟨a1, a2, -⟩ := hl i hi
  obtain ⟨b1, b2, -⟩ := hl k hk
  have xa := (hx_lt hI i).1
  have xb := (hx_lt hI k).1
  have r12 := rk_le s 12
  have la := rk_lt a1 xa
  have lb := rk_lt b1 xb
  have oa := ofn_n (j := rk s (hx s i)) (by omega)
  have ob := ofn_n (j := rk s (hx s k)) (by omega)
  have ha := ofn_n xa
  have hb' := ofn_n xb
  have ca := cl_i (i := Int32.ofNat (hx s i)) (by omega)
  have cb' := cl_i (i := Int32.ofNat (hx s k)) (by omega)
  have ei : hx s i = hp sm i := by unfold hx hp; rw [hd.1.2 i hi]
  have ek : hx s k = hp sm k := by unfold hx hp; rw [hd.1.2 k hk]
  have lt := (of_decide_eq_true a1).1
  have row := (hF.2 (hx s i) lt).2.2.2.2 (hx s k) xb
  unfold Px Pm pk
  rw [a2, b2, oa, ob, Int.toNat_natCast, Int.toNat_natCast, hM.2.2.2.1 _ _ la lb, (hM.2.1 _ xa a1).1, (hM.2.1 _ xb b1).1, show (Int32.ofNat (hx s i)).toNatClampNeg = hx s i by omega, show (Int32.ofNat (hx s k)).toNatClampNeg = hx s k by omega, ← row, ei, ek]
/-- readFrom beside isWhole -/
theorem read_both {K : Sg → Sg → Lg → Prop} {n : Nat} {sx sm : Sg} {lm : Lg} {y : Int32} {s : Sg} {y' : Int32} {s' : Sg} {l' : Lg} (h : Rel K n sx sm lm) (hJ : JC sx) (hd : HD sx sm) (c1 : fX7_readFrom sx = some (y, s)) (c2 : fX12_isWhole sm lm = some (y', s', l')) : s' = sm ∧ l' = lm ∧ IC s ∧ JC s ∧ MC s ∧ FEq s (sm 1) ∧ HD s sm ∧ (∀ k, ¬ (k = 3 ∨ (17 ≤ k ∧ k ≤ 23) ∨ k = 32 ∨ k = 33) → s k = sx k) ∧ ((y = 1 ∧ y' = 1 ∧ WHx s ∧ LRd s) ∨ (y = 0 ∧ y' = 0)) := by
  obtain ⟨hI, hM, hF, -⟩ := h
  obtain ⟨i1, j1, m1, f1, alt⟩ := ok_at (read_is hI hJ (hd_nd hM hd)) c1
  replace i1 : IC s := i1
  replace f1 : ∀ k, ¬ (k = 3 ∨ (17 ≤ k ∧ k ≤ 23) ∨ k = 32 ∨ k = 33) → s k = sx k := f1
  obtain ⟨g1, g2⟩ := ok_at (isWhole_is hM hd.2) c2
  obtain ⟨z1, z2⟩ := Prod.mk.inj (show (s', l') = (sm, lm) from g1)
  have F1 : FEq s (sm 1) := FEq_cg hF.1 (fun k hk => f1 k (by unfold flq at hk; omega))
  have hd1 : HD s sm := hd_cg hd (f1 5 (by omega)) (f1 31 (by omega)) rfl rfl
  have we := whole_eq i1.1 hM F1 hd1
  refine ⟨z1, z2, i1, j1, m1, F1, hd1, f1, ?_⟩
  rcases alt with ⟨a1, a2, a3⟩ | ⟨a1, a2⟩
  · rcases g2 with ⟨b1, b2⟩ | ⟨b1, b2⟩
    · exact Or.inl ⟨a1, b1, a2, a3⟩
    · exact absurd (we.mp a2) b2
  · rcases g2 with ⟨b1, b2⟩ | ⟨b1, b2⟩
    · exact absurd (we.mpr b2) a2
    · exact Or.inr ⟨a1, b1⟩
theorem val_weight {K : Sg → Sg → Lg → Prop} {n : Nat} {sx sm sx' sm' : Sg} {lm lm' : Lg} {r r' : Int64} (h : Rel K n sx sm lm) (hJ : JC sx) (hd : HD sx sm) (e1 : fX11_weight sx = some (r, sx')) (e2 : fX12_weight sm lm = some (r', sm', lm')) : r = r' ∧ HD sx' sm' := by
  have hM := h.2.1
  unfold fX11_weight at e1
  obtain ⟨y, s, c1, d1⟩ := p_bnd2 e1
  unfold fX12_weight at e2
  obtain ⟨y', s', l', c2, d2⟩ := p_bnd3 e2
  obtain ⟨z1, z2, i1, j1, m1, F1, hd1, f1, alt⟩ := read_both h hJ hd c1 c2
  rw [z1, z2] at d2
  rcases alt with ⟨a1, b1, w, lr⟩ | ⟨a1, b1⟩
  · rw [a1, ite1] at d1
    rw [b1, ite1] at d2
    obtain ⟨y5, s6, c6, d1⟩ := p_bnd2 d1
    obtain ⟨y6, s7, l8, c8, d2⟩ := p_bnd3 d2
    obtain ⟨g1, g2⟩ := ok_at (c_weight i1.1) c6
    obtain ⟨k1, k2⟩ := ok_at (m_weight hM) c8
    obtain ⟨k1a, k1b⟩ := Prod.mk.inj (show (s7, l8) = (sm, lm) from k1)
    replace g1 : s6 = s := g1
    replace g2 : y5.toInt = WT (Px s) (s 3 2).toInt.toNat := g2
    replace k2 : y6.toInt = WT (Pm sm) (sm 0 4).toInt.toNat := k2
    cases d1
    cases d2
    refine ⟨Int64.toInt_inj.mp ?_, by rw [g1, k1a]; exact hd1⟩
    have es : (s 5 0).toInt = (sm 0 4).toInt := by rw [hd1.1.1]
    have en : (s 3 2).toInt.toNat = (sm 0 4).toInt.toNat := by rw [m1.1, ← w.1, es]
    rw [g2, k2, en]
    exact WT_cg _ (fun i t a b => px_pm i1.1 m1 hM F1 hd1 lr (by omega) (by omega))
  · rw [a1, ite0] at d1
    rw [b1, ite0] at d2
    cases d1
    cases d2
    exact ⟨rfl, hd1⟩
/-! faults: the reference -/
def xs (p : Nat → Nat) : Nat → Nat
  | 0 => 0
  | i + 1 => xs p i ||| 2 ^ p i
def us (p : Nat → Nat) (i : Nat) : Nat := if i = 0 then 12 else p (i - 1)
theorem xs_tb {p : Nat → Nat} {h : Nat} : ∀ i, (xs p i).testBit h = hb p i h
  | 0 => by show Nat.testBit 0 h = false; rw [Nat.zero_testBit]
  | i + 1 => by
    show (xs p i ||| 2 ^ p i).testBit h = (hb p i h || decide (p i = h))
    rw [tb_or, xs_tb i]
theorem xs_le {p : Nat → Nat} (hp : ∀ i, p i < 12) : ∀ i, xs p i ≤ 4095
  | 0 => Nat.zero_le _
  | i + 1 => (ofn_or (xs_le hp i) (hp i)).2
/-- the one at a place is not as he asks -/
def Bad (sm : Sg) (i : Nat) : Prop := mb (sm 1) (sm 3 i) (Int32.ofNat (xs (hp sm) i)) (Int32.ofNat (us (hp sm) i)) = 0
/-- the least of the first m that is not -/
def FLm (sm : Sg) (m : Nat) (v : Int32) : Prop := (v = -1 ∧ ∀ i, i < m → ¬ Bad sm i) ∨ ∃ i, i < m ∧ Bad sm i ∧ v = sm 3 i ∧ ∀ j, j < m → Bad sm j → (sm 3 i).toInt ≤ (sm 3 j).toInt
theorem FLm_n {sm : Sg} {m : Nat} {v : Int32} (h : FLm sm m v) (nb : ¬ Bad sm m) : FLm sm (m + 1) v := by
  rcases h with ⟨a, b⟩ | ⟨i, a, b, c, d⟩
  · refine Or.inl ⟨a, fun i hi => ?_⟩
    by_cases w : i = m
    · rw [w]; exact nb
    · exact b i (by omega)
  · refine Or.inr ⟨i, by omega, b, c, fun j hj hb => ?_⟩
    by_cases w : j = m
    · rw [w] at hb; exact absurd hb nb
    · exact d j (by omega) hb
set_option maxHeartbeats 4000000 in
theorem m_faulty {sm : Sg} {lm : Lg} (hM : IM sm lm) : Ok (fun q => q.2 = (sm, lm) ∧ FLm sm (sm 0 4).toInt.toNat q.1) (fX12_faulty sm lm) := by
  have k0 : (0 : Int32).toInt = 0 := by decide
  have km : (-1 : Int32).toInt = -1 := by decide
  have q4 := rdM0_4 hM
  have sv := hM.2.2
  have hpl := fun i => (hp_lt hM i).1
  unfold fX12_faulty LX12_faulty_10
  refine ok_loop (I := fun (q : Int32 × Int32 × Int32 × Int32 × Sg × Lg) => q.2.2.2.2 = (sm, lm) ∧ 0 ≤ q.2.2.2.1.toInt ∧ q.2.2.2.1.toInt ≤ (sm 0 4).toInt ∧ q.2.1 = Int32.ofNat (xs (hp sm) q.2.2.2.1.toInt.toNat) ∧ q.2.2.1 = Int32.ofNat (us (hp sm) q.2.2.2.1.toInt.toNat) ∧ FLm sm q.2.2.2.1.toInt.toNat q.1) (m := fun (q : Int32 × Int32 × Int32 × Int32 × Sg × Lg) => (13 - q.2.2.2.1.toInt).toNat) _ ?_ ?_ _ ?_
  · intro q hq
    have := hq.2.1
    show (13 - q.2.2.2.1.toInt).toNat < 10000
    omega
  · intro rec q hq hrec
    obtain ⟨v1, v2, v3, v4, s, l⟩ := q
    replace hq : (s, l) = (sm, lm) ∧ 0 ≤ v4.toInt ∧ v4.toInt ≤ (sm 0 4).toInt ∧ v2 = Int32.ofNat (xs (hp sm) v4.toInt.toNat) ∧ v3 = Int32.ofNat (us (hp sm) v4.toInt.toNat) ∧ FLm sm v4.toInt.toNat v1 := hq
    obtain ⟨a2, q0, q1, q2, q3, q5⟩ := hq
    obtain ⟨b1, b2⟩ := Prod.mk.inj a2
    subst b1 b2
    show Ok _ (fX12_faulty_10 rec v1 v2 v3 v4 s l)
    unfold fX12_faulty_10
    have hc := cl_i q0
    have en : v4.toNatClampNeg = v4.toInt.toNat := by omega
    have r3 := rdM3 hM (j := v4.toInt.toNat)
    -- on
    have go : ∀ w : Int32, v4.toInt < (s 0 4).toInt → FLm s (v4.toInt.toNat + 1) w → Ok (fun (q : Int32 × Sg × Lg) => q.2 = (s, l) ∧ FLm s (s 0 4).toInt.toNat q.1) (fX12_faulty_58 rec w v2 v4 s l) := by
      intro w g0 g1
      unfold fX12_faulty_58
      refine ok_gin (by omega) (by omega) ?_
      rw [en]
      refine ok_lt (fun x2 e2 => ?_)
      refine ok_gin (by omega) (by omega) ?_
      refine ok_lt (fun x4 e4 => ?_)
      refine ok_lt (fun x5 e5 => ?_)
      replace e5 : x5.toInt = v4.toInt + 1 := by rw [e5]; exact add_c 1 (by decide) (by omega) (by omega)
      have ey : x5.toInt.toNat = v4.toInt.toNat + 1 := by omega
      refine hrec (w, x2, x4, x5, s, l) ⟨rfl, by show 0 ≤ x5.toInt; omega, by show x5.toInt ≤ (s 0 4).toInt; omega, ?_, ?_, ?_⟩ (show (13 - x5.toInt).toNat < (13 - v4.toInt).toNat by omega)
      · show x2 = Int32.ofNat (xs (hp s) x5.toInt.toNat)
        rw [ey, e2, q2, (hp_lt hM v4.toInt.toNat).2]
        exact (ofn_or (xs_le hpl v4.toInt.toNat) (hpl _)).1
      · show x4 = Int32.ofNat (us (hp s) x5.toInt.toNat)
        rw [ey, e4]
        unfold us
        rw [if_neg (by omega), show v4.toInt.toNat + 1 - 1 = v4.toInt.toNat by omega]
        exact (hp_lt hM v4.toInt.toNat).2
      · show FLm s x5.toInt.toNat w
        rw [ey]; exact g1
    refine ok_ite (fun c => ?_) (fun c => ?_)
    · replace c := i_le.mp c
      refine ok_some ⟨rfl, ?_⟩
      show FLm s (s 0 4).toInt.toNat v1
      rw [show (s 0 4).toInt.toNat = v4.toInt.toNat by omega]
      exact q5
    · replace c := i_nle.mp c
      refine ok_gin (by omega) (by omega) ?_
      rw [en]
      refine bnd3_of (may_is sv r3.1 r3.2) ?_
      have isBad : mb (s 1) (s 3 v4.toInt.toNat) v2 v3 = 0 ↔ Bad s v4.toInt.toNat := by unfold Bad; rw [← q2, ← q3]
      refine ok_ite (fun d => ?_) (fun d => ?_)
      · have bad := isBad.mp d
        -- a new least
        have put : (∀ j, j < v4.toInt.toNat → Bad s j → (s 3 v4.toInt.toNat).toInt ≤ (s 3 j).toInt) → Ok (fun (q : Int32 × Sg × Lg) => q.2 = (s, l) ∧ FLm s (s 0 4).toInt.toNat q.1) (fX12_faulty_50 rec v2 v4 s l) := by
          intro g
          unfold fX12_faulty_50
          refine ok_gin (by omega) (by omega) ?_
          rw [en]
          refine ok_lt (fun x2 e2 => ?_)
          refine go x2 c (Or.inr ⟨v4.toInt.toNat, by omega, bad, e2, fun j hj hb => ?_⟩)
          by_cases w : j = v4.toInt.toNat
          · rw [w]; exact Int.le_refl _
          · exact g j (by omega) hb
        refine ok_ite (fun f => ?_) (fun f => ?_)
        · replace f := i_lt.mp f
          refine put (fun j hj hb => ?_)
          rcases q5 with ⟨z1, z2⟩ | ⟨i, z1, z2, z3, z4⟩
          · exact absurd hb (z2 j hj)
          · have := rdM3 hM (j := i)
            rw [z3] at f
            omega
        · replace f := i_nlt.mp f
          refine ok_gin (by omega) (by omega) ?_
          rcases q5 with ⟨z1, z2⟩ | ⟨i, z1, z2, z3, z4⟩
          · rw [z1] at f; omega
          · refine ok_ite (fun g => ?_) (fun g => ?_)
            · replace g := i_le.mp g
              refine go v1 c (Or.inr ⟨i, by omega, z2, z3, fun j hj hb => ?_⟩)
              by_cases w : j = v4.toInt.toNat
              · rw [w, ← z3]; exact g
              · exact z4 j (by omega) hb
            · replace g := i_nle.mp g
              refine put (fun j hj hb => ?_)
              have := z4 j hj hb
              rw [z3] at g
              omega
      · exact go v1 c (FLm_n q5 (fun z => d (isBad.mpr z)))
  · refine ⟨rfl, by show 0 ≤ (0 : Int32).toInt; omega, by show (0 : Int32).toInt ≤ (sm 0 4).toInt; omega, rfl, rfl, Or.inl ⟨rfl, fun i hi => ?_⟩⟩
    have hi' : i < (0 : Int32).toInt.toNat := hi
    rw [k0] at hi'
    exact absurd hi' (Nat.not_lt_zero _)
/-! faults: by places -/
theorem mb_may {sx sm : Sg} {h X u : Nat} (hI : IC0 sx) (hF : FEq sx (sm 1)) (hX : X ≤ 4095) (hu : u ≤ 12) (hh : h < 12) (hc : cnb sx h = true) : mb (sm 1) (Int32.ofNat h) (Int32.ofNat X) (Int32.ofNat u) = 0 ↔ ¬ MAY sx h X u := by
  have o := ofn_n hh
  have cn0 := cl_i (i := Int32.ofNat h) (by omega)
  have en : (Int32.ofNat h).toNatClampNeg = h := by omega
  have row := hF.2 h (of_decide_eq_true hc).1
  unfold mb
  rw [en, row.1]
  rcases ab_wt hI hF hh hc with ⟨k, k1, k2, k3⟩ | ⟨k1, k2⟩
  · have ok := ofn_n k1
    have kd := kd_cases hI k2.2.1 k2.2.2.1
    have bk := bit_x (X := X) (u := k) hX (by omega)
    have all : MAY sx h X u ↔ ((sx 11 h = 1 → X.testBit k = true) ∧ (sx 11 h = 2 → X.testBit k = false) ∧ (sx 11 h = 3 → u = k)) :=
      ⟨fun z => z k k2, fun z k' hk' => by rw [← Wt_fn k2 hk']; exact z⟩
    rw [all, k3, if_pos (by rw [i_le]; rw [ok]; exact Int.natCast_nonneg _)]
    rcases kd with z | z | z
    · rw [z, if_pos rfl]
      cases hk : X.testBit k
      · rw [if_neg (fun y => by rw [bk.mp y] at hk; cases hk)]
        exact ⟨fun _ y => absurd (y.1 rfl) (by decide), fun _ => rfl⟩
      · rw [if_pos (bk.mpr hk)]
        exact ⟨fun y => absurd y (by decide), fun y => absurd ⟨fun _ => rfl, fun w => absurd w (by decide), fun w => absurd w (by decide)⟩ y⟩
    · rw [z, if_neg (by decide), if_pos rfl]
      cases hk : X.testBit k
      · rw [if_neg (fun y => by rw [bk.mp y] at hk; cases hk)]
        exact ⟨fun y => absurd y (by decide), fun y => absurd ⟨fun w => absurd w (by decide), fun _ => rfl, fun w => absurd w (by decide)⟩ y⟩
      · rw [if_pos (bk.mpr hk)]
        exact ⟨fun _ y => absurd (y.2.1 rfl) (by decide), fun _ => rfl⟩
    · rw [z, if_neg (by decide), if_neg (by decide)]
      have ou := ofn_x (X := u) (by omega)
      by_cases c : u = k
      · rw [if_pos (by rw [c])]
        exact ⟨fun y => absurd y (by decide), fun y => absurd ⟨fun w => absurd w (by decide), fun w => absurd w (by decide), fun _ => c⟩ y⟩
      · rw [if_neg (fun y => c (by have := congrArg Int32.toInt y; omega))]
        exact ⟨fun _ y => c (y.2.2 rfl), fun _ => rfl⟩
  · rw [k2, if_neg (by decide)]
    exact ⟨fun y => absurd y (by decide), fun y => absurd (fun k hk => absurd hk (k1 k)) y⟩
/-- the one at a place stands as he asks -/
def Kept (sx : Sg) (p : Nat → Nat) (n i : Nat) : Prop := ∀ k j, Wt sx (p i) k → j < n → p j = k → (sx 11 (p i) = 1 → j < i) ∧ (sx 11 (p i) = 2 → i < j) ∧ (sx 11 (p i) = 3 → i = j + 1)
/-- a row of all who count, none twice -/
def Wh (sx : Sg) (p : Nat → Nat) (n : Nat) : Prop := (∀ i j, i < n → j < n → p i = p j → i = j) ∧ ∀ h, h < 12 → (cnb sx h = true ↔ ∃ i, i < n ∧ p i = h)
theorem may_kept {sx : Sg} {p : Nat → Nat} {n i : Nat} (ns : ∀ h, ¬ Wt sx h h) (hw : Wh sx p n) (hi : i < n) : MAY sx (p i) (xs p i) (us p i) ↔ Kept sx p n i := by
  obtain ⟨inj, on⟩ := hw
  constructor
  · intro m k j hk hj e
    obtain ⟨m1, m2, m3⟩ := m k hk
    refine ⟨fun z => ?_, fun z => ?_, fun z => ?_⟩
    · have := m1 z
      rw [xs_tb, hb_iff] at this
      obtain ⟨t, t1, t2⟩ := this
      have := inj t j (by omega) hj (by rw [t2, e])
      omega
    · have nb := m2 z
      rw [xs_tb] at nb
      have nj : ¬ j < i := fun y => by
        have := (hb_iff (p := p) (h := k) i).mpr ⟨j, y, e⟩
        rw [nb] at this; cases this
      have ne : j ≠ i := fun y => by
        rw [y] at e
        rw [← e] at hk
        exact ns _ hk
      omega
    · have u := m3 z
      unfold us at u
      by_cases w : i = 0
      · rw [if_pos w] at u
        have := hk.2.2.2.2.1
        omega
      · rw [if_neg w] at u
        have := inj (i - 1) j (by omega) hj (by rw [u, e])
        omega
  · intro kp k hk
    obtain ⟨j, j1, j2⟩ := (on k hk.2.2.2.2.1).mp hk.2.2.2.2.2
    obtain ⟨m1, m2, m3⟩ := kp k j hk j1 j2
    refine ⟨fun z => ?_, fun z => ?_, fun z => ?_⟩
    · rw [xs_tb]
      exact (hb_iff i).mpr ⟨j, m1 z, j2⟩
    · rw [xs_tb]
      cases hq : hb p i k
      · rfl
      · obtain ⟨t, t1, t2⟩ := (hb_iff i).mp hq
        have := inj t j (by omega) j1 (by rw [t2, j2])
        have := m2 z
        omega
    · unfold us
      have e := m3 z
      rw [if_neg (by omega), show i - 1 = j by omega]
      exact j2
/-- the reference's fault at a place -/
theorem bad_kept {sx sm : Sg} {lm : Lg} {n i : Nat} (hI : IC0 sx) (hM : IM sm lm) (hF : FEq sx (sm 1)) (ns : ∀ h, ¬ Wt sx h h) (hw : Wh sx (hp sm) n) (hi : i < n) : Bad sm i ↔ ¬ Kept sx (hp sm) n i := by
  have hl := hp_lt hM i
  have hc := (hw.2 (hp sm i) hl.1).mpr ⟨i, hi, rfl⟩
  have ul : us (hp sm) i ≤ 12 := by
    unfold us
    split
    · exact Nat.le_refl _
    · exact Nat.le_of_lt (hp_lt hM (i - 1)).1
  unfold Bad
  rw [hl.2, mb_may hI hF (xs_le (fun i => (hp_lt hM i).1) i) ul hl.1 hc, may_kept ns hw hi]
/-! faults: the class -/
/-- the line holds the row p -/
def LO (s : Sg) (p : Nat → Nat) (n : Nat) : Prop := n = rk s 12 ∧ ∀ i, i < n → p i < 12 ∧ cnb s (p i) = true ∧ s 32 i = Int32.ofNat (rk s (p i)) ∧ s 33 (rk s (p i)) = Int32.ofNat i
theorem LO_wh {s : Sg} {p : Nat → Nat} {n : Nat} (h : LO s p n) : Wh s p n := by
  obtain ⟨h1, h2⟩ := h
  have r12 := rk_le s 12
  have inj : ∀ i j, i < n → j < n → p i = p j → i = j := fun i j a b e => by
    have x := (h2 i a).2.2.2
    have y := (h2 j b).2.2.2
    rw [e, y] at x
    exact (ofn_inj (by omega) (by omega) x).symm
  have w := (whole_iff (p := p) (m := n) (c := cnb s) (fun i hi => (h2 i hi).1) (fun i j a b z => by have := inj i j (by omega) b z; omega)).mp ⟨h1, fun i hi => (h2 i hi).2.1⟩
  refine ⟨inj, fun h hh => ?_⟩
  rw [← w h hh, hb_iff]
theorem w20' {sx : Sg} {h : Nat} (hI : IC0 sx) (hM : MC sx) (hh : h < 12) (hc : cnb sx h = true) : (∃ k, Wt sx h k ∧ sx 20 (rk sx h) = Int32.ofNat (rk sx k)) ∨ ((∀ k, ¬ Wt sx h k) ∧ sx 20 (rk sx h) = -1) := by
  have hM' := hM
  obtain ⟨-, m2, m3, -, m5, -⟩ := hM
  have o := ofn_n hh
  have cn0 := cl_i (i := Int32.ofNat h) (by omega)
  have rl := rk_lt hc hh
  have r12 := rk_le sx 12
  by_cases e : ∃ k, Wt sx h k
  · obtain ⟨k, hk⟩ := e
    exact Or.inl ⟨k, hk, (w20 hI hM' hh hc hk.2.2.2.2.1 hk.2.2.2.2.2).mpr hk⟩
  · right
    refine ⟨fun k hk => e ⟨k, hk⟩, ?_⟩
    rw [m5 (rk sx h) rl, (m2 h hh hc).1, show (Int32.ofNat h).toNatClampNeg = h by omega]
    unfold wsl
    by_cases c : ¬ sx 11 h = 0 ∧ ¬ sx 11 h = 4 ∧ ¬ sx 12 h = -2000000005
    · rw [if_pos c]
      have ra := rdC12 hI (j := h)
      have rb : 0 ≤ (sx 12 h).toInt := by
        rcases hI.2 12 h (Or.inl rfl) with z | z
        · exact absurd z c.2.2
        · exact z
      have ca := cl_i rb
      have eo := of_i rb
      have lt : (sx 12 h).toNatClampNeg < 12 := by omega
      rw [show (sx 12 h).toInt.toNat = (sx 12 h).toNatClampNeg by omega] at eo
      cases hca : cnb sx (sx 12 h).toNatClampNeg
      · exact m3 _ lt hca
      · exact absurd ⟨_, hc, c.1, c.2.1, eo, lt, hca⟩ e
    · rw [if_neg c]
set_option maxHeartbeats 4000000 in
theorem kept_is {s : Sg} {p : Nat → Nat} {n i : Nat} (hI : IC0 s) (hM : MC s) (hl : LO s p n) (hi : i < n) : Ok (fun q => q.2 = s ∧ ((q.1 = 1 ∧ Kept s p n i) ∨ (q.1 = 0 ∧ ¬ Kept s p n i))) (fX7_isKept (Int32.ofNat (rk s (p i))) s) := by
  have k0 : (0 : Int32).toInt = 0 := by decide
  have k1 : (1 : Int32).toInt = 1 := by decide
  have wh := LO_wh hl
  obtain ⟨l1, l2⟩ := hl
  obtain ⟨a1, a2, a3, a4⟩ := l2 i hi
  have r12 := rk_le s 12
  have rl := rk_lt a2 a1
  have o := ofn_n (j := rk s (p i)) (by omega)
  have hc := cl_i (i := Int32.ofNat (rk s (p i))) (by omega)
  have en : (Int32.ofNat (rk s (p i))).toNatClampNeg = rk s (p i) := by omega
  unfold fX7_isKept
  refine ok_gin (by omega) (by omega) ?_
  rw [en]
  refine ok_lt (fun x2 e2 => ?_)
  rcases w20' hI hM a1 a2 with ⟨k, w1, w2⟩ | ⟨w1, w2⟩
  · obtain ⟨j, j1, j2⟩ := (wh.2 k w1.2.2.2.2.1).mp w1.2.2.2.2.2
    obtain ⟨b1, b2, b3, b4⟩ := l2 j j1
    rw [j2] at b1 b2 b4
    have rlk := rk_lt b2 b1
    have ok' := ofn_n (j := rk s k) (by omega)
    have hck := cl_i (i := Int32.ofNat (rk s k)) (by omega)
    have oi := ofn_n (j := i) (by omega)
    have oj := ofn_n (j := j) (by omega)
    have all : Kept s p n i ↔ ((s 11 (p i) = 1 → j < i) ∧ (s 11 (p i) = 2 → i < j) ∧ (s 11 (p i) = 3 → i = j + 1)) := by
      refine ⟨fun z => z k j w1 j1 j2, fun z k' j' hk' hj' e' => ?_⟩
      have ek := Wt_fn w1 hk'
      have ej := wh.1 j j' j1 hj' (by rw [j2, e', ek])
      rw [← ej]; exact z
    rw [e2, w2, if_neg (fun z => by have := congrArg Int32.toInt z; have km : (-1 : Int32).toInt = -1 := by decide
                                    omega)]
    refine ok_gin (by omega) (by omega) ?_
    refine ok_gin (by omega) (by omega) ?_
    rw [show (Int32.ofNat (rk s k)).toNatClampNeg = rk s k by omega, a4, b4]
    have f := sub_i (a := Int32.ofNat i) (b := Int32.ofNat j) (by omega) (by omega)
    refine ok_lt (fun x6 e6 => ?_)
    rw [← e6, oi, oj] at f
    refine ok_gin (by omega) (by omega) ?_
    refine ok_lt (fun x8 e8 => ?_)
    rw [(hM.2.1 _ a1 a2).2.2] at e8
    rw [all]
    subst e8
    rcases kd_cases hI w1.2.1 w1.2.2.1 with z | z | z
    · rw [z, if_pos rfl]
      refine ok_ite (fun c => ?_) (fun c => ?_)
      · replace c := i_le.mp c
        exact ok_some ⟨rfl, Or.inr ⟨rfl, fun y => by have := y.1 rfl; omega⟩⟩
      · replace c := i_nle.mp c
        exact ok_some ⟨rfl, Or.inl ⟨rfl, fun _ => by omega, fun y => absurd y (by decide), fun y => absurd y (by decide)⟩⟩
    · rw [z, if_neg (by decide), if_pos rfl]
      refine ok_ite (fun c => ?_) (fun c => ?_)
      · replace c := i_le.mp c
        exact ok_some ⟨rfl, Or.inr ⟨rfl, fun y => by have := y.2.1 rfl; omega⟩⟩
      · replace c := i_nle.mp c
        exact ok_some ⟨rfl, Or.inl ⟨rfl, fun y => absurd y (by decide), fun _ => by omega, fun y => absurd y (by decide)⟩⟩
    · rw [z, if_neg (by decide), if_neg (by decide), if_pos rfl]
      refine ok_ite (fun c => ?_) (fun c => ?_)
      · replace c := i_eq.mp c
        exact ok_some ⟨rfl, Or.inl ⟨rfl, fun y => absurd y (by decide), fun y => absurd y (by decide), fun _ => by omega⟩⟩
      · replace c := i_ne.mp c
        exact ok_some ⟨rfl, Or.inr ⟨rfl, fun y => by have := y.2.2 rfl; omega⟩⟩
  · rw [e2, w2, if_pos rfl]
    exact ok_some ⟨rfl, Or.inl ⟨rfl, fun k j hk => absurd hk (w1 k)⟩⟩
/-- the least that is not as he asks -/
def FLx (s : Sg) (p : Nat → Nat) (n : Nat) (v : Int64) : Prop := (v = -2000000005 ∧ ∀ i, i < n → Kept s p n i) ∨ ∃ i, i < n ∧ ¬ Kept s p n i ∧ v = (Int32.ofNat (p i)).toInt64 ∧ ∀ j, j < n → ¬ Kept s p n j → p i ≤ p j
theorem rk_le_of {s : Sg} {a b : Nat} (hb : cnb s b = true) (h : rk s a ≤ rk s b) : a ≤ b := by
  refine Decidable.byContradiction fun z => ?_
  have := rk_lt hb (show b < a by omega)
  omega
set_option maxHeartbeats 4000000 in
theorem c_fault {s : Sg} {p : Nat → Nat} {n : Nat} (hI : IC0 s) (hM : MC s) (hl : LO s p n) : Ok (fun q => q.2 = s ∧ FLx s p n q.1) (fX7_leastFault s) := by
  have k0 : (0 : Int32).toInt = 0 := by decide
  have wh := LO_wh hl
  have r12 := rk_le s 12
  have en : (s 3 2).toInt = (n : Int) := by rw [hM.1, hl.1]
  have n12 : n ≤ 12 := by rw [hl.1]; exact r12
  unfold fX7_leastFault LX7_leastFault_2
  refine ok_loop (I := fun (q : Int32 × Sg) => q.2 = s ∧ 0 ≤ q.1.toInt ∧ q.1.toInt ≤ (n : Int) ∧ ∀ i, i < n → (rk s (p i) : Int) < q.1.toInt → Kept s p n i) (m := fun (q : Int32 × Sg) => (13 - q.1.toInt).toNat) _ ?_ ?_ _ ?_
  · intro q hq
    have := hq.2.1
    show (13 - q.1.toInt).toNat < 10000
    omega
  · intro rec q hq hrec
    obtain ⟨v1, s'⟩ := q
    replace hq : s' = s ∧ 0 ≤ v1.toInt ∧ v1.toInt ≤ (n : Int) ∧ ∀ i, i < n → (rk s (p i) : Int) < v1.toInt → Kept s p n i := hq
    obtain ⟨a1, q0, q1, q2⟩ := hq
    rw [a1]
    show Ok _ (fX7_leastFault_2 rec v1 s)
    unfold fX7_leastFault_2
    have hc := cl_i q0
    refine ok_ite (fun c => ?_) (fun c => ?_)
    · replace c := i_le.mp c
      refine ok_some ⟨rfl, Or.inl ⟨rfl, fun i hi => q2 i hi ?_⟩⟩
      have l := hl.2 i hi
      have := rk_lt l.2.1 l.1
      rw [← hl.1] at this
      omega
    · replace c := i_nle.mp c
      obtain ⟨h, h1, h2, h3⟩ := rk_onto (sg := s) 12 v1.toInt.toNat (by rw [← hl.1]; omega)
      obtain ⟨i, i1, i2⟩ := (wh.2 h h1).mp h2
      subst i2
      have ev : v1 = Int32.ofNat (rk s (p i)) := by
        have := of_i q0
        rw [this, h3]
      have kp := kept_is hI hM hl i1
      rw [← ev] at kp
      refine ok_bnd2 kp (fun y s3 hq => ?_)
      obtain ⟨g1, g2⟩ := hq
      replace g1 : s3 = s := g1
      replace g2 : (y = 1 ∧ Kept s p n i) ∨ (y = 0 ∧ ¬ Kept s p n i) := g2
      rw [g1]
      rcases g2 with ⟨z1, z2⟩ | ⟨z1, z2⟩
      · rw [z1, ite1]
        refine ok_lt (fun x6 e6 => ?_)
        replace e6 : x6.toInt = v1.toInt + 1 := by rw [e6]; exact add_c 1 (by decide) (by omega) (by omega)
        refine hrec (x6, s) ⟨rfl, by show 0 ≤ x6.toInt; omega, by show x6.toInt ≤ (n : Int); omega, fun j hj hr => ?_⟩ (show (13 - x6.toInt).toNat < (13 - v1.toInt).toNat by omega)
        replace hr : (rk s (p j) : Int) < x6.toInt := hr
        by_cases w : (rk s (p j) : Int) < v1.toInt
        · exact q2 j hj w
        · have lj := hl.2 j hj
          have e : p j = p i := rk_inj lj.2.1 h2 (by omega)
          rw [wh.1 j i hj i1 e]; exact z2
      · rw [z1, ite0]
        refine ok_gin (by omega) (by omega) ?_
        refine ok_some ⟨rfl, Or.inr ⟨i, i1, z2, ?_, fun j hj hk => ?_⟩⟩
        · show (s 17 v1.toNatClampNeg).toInt64 = _
          rw [show v1.toNatClampNeg = rk s (p i) by omega, (hM.2.1 _ h1 h2).1]
        · have lj := hl.2 j hj
          refine rk_le_of lj.2.1 ?_
          refine Decidable.byContradiction fun w => hk (q2 j hj (by omega))
  · refine ⟨rfl, by show 0 ≤ (0 : Int32).toInt; omega, by show (0 : Int32).toInt ≤ (n : Int); omega, fun i hi hr => ?_⟩
    have hr' : (rk s (p i) : Int) < (0 : Int32).toInt := hr
    omega
/-- fault: the answers are alike -/
theorem fl_both {s sm : Sg} {lm : Lg} {n : Nat} {v : Int64} {y : Int32} (hI : IC0 s) (hM : IM sm lm) (hF : FEq s (sm 1)) (ns : ∀ h, ¬ Wt s h h) (hw : Wh s (hp sm) n) (hn : n = (sm 0 4).toInt.toNat) (a : FLx s (hp sm) n v) (b : FLm sm (sm 0 4).toInt.toNat y) : (v = -2000000005 ∧ y = -1) ∨ (0 ≤ y.toInt ∧ v = y.toInt64) := by
  rw [← hn] at b
  have bk := fun {i : Nat} (hi : i < n) => bad_kept hI hM hF ns hw hi
  rcases a with ⟨a1, a2⟩ | ⟨i, a1, a2, a3, a4⟩
  · rcases b with ⟨b1, b2⟩ | ⟨j, b1, b2, -⟩
    · exact Or.inl ⟨a1, b1⟩
    · exact absurd (a2 j b1) ((bk b1).mp b2)
  · rcases b with ⟨b1, b2⟩ | ⟨j, b1, b2, b3, b4⟩
    · exact absurd ((bk a1).mpr a2) (b2 i a1)
    · right
      have li := hp_lt hM i
      have lj := hp_lt hM j
      have oi := ofn_n li.1
      have oj := ofn_n lj.1
      have h1 := a4 j b1 ((bk b1).mp b2)
      have h2 := b4 i a1 ((bk a1).mpr a2)
      rw [li.2, lj.2] at h2
      have e : hp sm i = hp sm j := by omega
      rw [b3, lj.2, a3, e]
      exact ⟨by omega, rfl⟩
/-! fault -/
theorem lo_of {s : Sg} {sm : Sg} {lm : Lg} (hI : IC0 s) (hM : IM sm lm) (hd : HD s sm) (w : WHx s) (lr : LRd s) : LO s (hp sm) (sm 0 4).toInt.toNat := by
  have es : (s 5 0).toInt = (sm 0 4).toInt := by rw [hd.1.1]
  have q := rdM0_4 hM
  refine ⟨by have := w.1; omega, fun i hi => ?_⟩
  have eh : hx s i = hp sm i := by unfold hx hp; rw [hd.1.2 i (by omega)]
  obtain ⟨a, b, c⟩ := lr i (by omega)
  rw [eh] at a b c
  exact ⟨(hp_lt hM i).1, a, b, c⟩
theorem val_fault {K : Sg → Sg → Lg → Prop} {n : Nat} {sx sm sx' sm' : Sg} {lm lm' : Lg} {r r' : Int64} (h : Rel K n sx sm lm) (hJ : JC sx) (hN : NSH sm) (hd : HD sx sm) (e1 : fX11_fault sx = some (r, sx')) (e2 : fX12_fault sm lm = some (r', sm', lm')) : r = r' ∧ HD sx' sm' := by
  have hM := h.2.1
  have k0 : (0 : Int32).toInt = 0 := by decide
  unfold fX11_fault at e1
  obtain ⟨y, s, c1, d1⟩ := p_bnd2 e1
  unfold fX12_fault at e2
  obtain ⟨y', s', l', c2, d2⟩ := p_bnd3 e2
  obtain ⟨z1, z2, i1, j1, m1, F1, hd1, f1, alt⟩ := read_both h hJ hd c1 c2
  rw [z1, z2] at d2
  rcases alt with ⟨a1, b1, w, lr⟩ | ⟨a1, b1⟩
  · rw [a1, ite1] at d1
    rw [b1, ite1] at d2
    obtain ⟨y5, s6, c6, d1⟩ := p_bnd2 d1
    obtain ⟨y6, s7, l8, c8, d2⟩ := p_bnd3 d2
    have lo := lo_of i1.1 hM hd1 w lr
    obtain ⟨g1, g2⟩ := ok_at (c_fault i1.1 m1 lo) c6
    obtain ⟨k1, k2⟩ := ok_at (m_faulty hM) c8
    obtain ⟨k1a, k1b⟩ := Prod.mk.inj (show (s7, l8) = (sm, lm) from k1)
    replace g1 : s6 = s := g1
    replace g2 : FLx s (hp sm) (sm 0 4).toInt.toNat y5 := g2
    replace k2 : FLm sm (sm 0 4).toInt.toNat y6 := k2
    rw [k1a, k1b] at d2
    rw [g1] at d1
    cases d1
    rcases fl_both i1.1 hM F1 (ns_wt F1 hN) (LO_wh lo) rfl g2 k2 with ⟨v1, v2⟩ | ⟨v1, v2⟩
    · rw [v2, if_neg (by decide)] at d2
      cases d2
      exact ⟨v1, hd1⟩
    · rw [if_pos (by rw [i_le]; omega)] at d2
      obtain ⟨y11, s12, l13, c12, d2⟩ := p_bnd3 d2
      rw [c12, k1a, k1b] at c8
      obtain ⟨u1, u2⟩ := Prod.mk.inj (Option.some.inj c8)
      obtain ⟨u3, u4⟩ := Prod.mk.inj u2
      cases d2
      rw [u1, u3]
      exact ⟨v2, hd1⟩
  · rw [a1, ite0] at d1
    rw [b1, ite0] at d2
    cases d1
    cases d2
    exact ⟨rfl, hd1⟩
/-! what a move does to the weight -/
theorem W1_pt {P Q : Nat → Nat → Int} {i j : Nat} : ∀ k, (∀ t, t < k → P i t = Q j t) → W1 P i k = W1 Q j k
  | 0, _ => rfl
  | k + 1, h => by
    unfold W1
    rw [W1_pt k (fun t ht => h t (by omega)), h k (by omega)]
/-- two neighbours changed, below a row -/
theorem W1_sw {P Q : Nat → Nat → Int} {i t : Nat} (h1 : P i t = Q i (t + 1)) (h2 : P i (t + 1) = Q i t) (h3 : ∀ u, u ≠ t → u ≠ t + 1 → P i u = Q i u) : ∀ k, t + 2 ≤ k → W1 P i k = W1 Q i k := by
  intro k
  induction k with
  | zero => intro h; omega
  | succ k ih =>
    intro h
    by_cases c : t + 2 ≤ k
    · unfold W1
      rw [ih c, h3 k (by omega) (by omega)]
    · have e : k = t + 1 := by omega
      subst e
      show W1 P i t + P i t + P i (t + 1) = W1 Q i t + Q i t + Q i (t + 1)
      have b : W1 P i t = W1 Q i t := W1_pt t (fun u hu => h3 u (by omega) (by omega))
      omega
/-- the weight of a row -/
def WP (H : Nat → Nat → Int) (p : Nat → Nat) (n : Nat) : Int := WT (fun i t => H (p i) (p t)) n
theorem WP_sw {H : Nat → Nat → Int} {p q : Nat → Nat} {t : Nat} (h1 : q t = p (t + 1)) (h2 : q (t + 1) = p t) (h3 : ∀ u, u ≠ t → u ≠ t + 1 → q u = p u) : ∀ n, t + 2 ≤ n → WP H q n = WP H p n - H (p (t + 1)) (p t) + H (p t) (p (t + 1)) := by
  intro n
  induction n with
  | zero => intro h; omega
  | succ n ih =>
    intro h
    by_cases c : t + 2 ≤ n
    · have e := ih c
      have w : W1 (fun i u => H (q i) (q u)) n n = W1 (fun i u => H (p i) (p u)) n n := by
        refine W1_sw (t := t) ?_ ?_ (fun u a b => ?_) n c
        · show H (q n) (q t) = H (p n) (p (t + 1))
          rw [h1, h3 n (by omega) (by omega)]
        · show H (q n) (q (t + 1)) = H (p n) (p t)
          rw [h2, h3 n (by omega) (by omega)]
        · show H (q n) (q u) = H (p n) (p u)
          rw [h3 n (by omega) (by omega), h3 u a b]
      unfold WP at e ⊢
      unfold WT
      omega
    · have en : n = t + 1 := by omega
      subst en
      unfold WP
      show WT (fun i u => H (q i) (q u)) t + W1 (fun i u => H (q i) (q u)) t t + (W1 (fun i u => H (q i) (q u)) (t + 1) t + H (q (t + 1)) (q t)) = WT (fun i u => H (p i) (p u)) t + W1 (fun i u => H (p i) (p u)) t t + (W1 (fun i u => H (p i) (p u)) (t + 1) t + H (p (t + 1)) (p t)) - H (p (t + 1)) (p t) + H (p t) (p (t + 1))
      have a : WT (fun i u => H (q i) (q u)) t = WT (fun i u => H (p i) (p u)) t := WT_cg t (fun i u x y => by rw [h3 i (by omega) (by omega), h3 u (by omega) (by omega)])
      have b : W1 (fun i u => H (q i) (q u)) t t = W1 (fun i u => H (p i) (p u)) (t + 1) t := W1_pt t (fun u hu => by rw [h1, h3 u (by omega) (by omega)])
      have c : W1 (fun i u => H (q i) (q u)) (t + 1) t = W1 (fun i u => H (p i) (p u)) t t := W1_pt t (fun u hu => by rw [h2, h3 u (by omega) (by omega)])
      rw [a, b, c, h1, h2]
      omega
/-- a row with one moved -/
def shN (p : Nat → Nat) (i k : Nat) : Nat → Nat := fun j => if j = k then p i else if i ≤ j ∧ j < k then p (j + 1) else if k < j ∧ j ≤ i then p (j - 1) else p j
theorem sh_self {p : Nat → Nat} {i : Nat} : shN p i i = p := by
  funext j
  unfold shN
  by_cases c : j = i
  · rw [if_pos c, c]
  · rw [if_neg c, if_neg (by omega), if_neg (by omega)]
theorem WP_down {H : Nat → Nat → Int} {p : Nat → Nat} {i k n : Nat} (h : i ≤ k) (hk : k + 1 < n) : WP H (shN p i (k + 1)) n = WP H (shN p i k) n + H (p i) (p (k + 1)) - H (p (k + 1)) (p i) := by
  have a : shN p i k k = p i := by unfold shN; rw [if_pos rfl]
  have b : shN p i k (k + 1) = p (k + 1) := by unfold shN; rw [if_neg (by omega), if_neg (by omega), if_neg (by omega)]
  have c : shN p i (k + 1) k = p (k + 1) := by unfold shN; rw [if_neg (by omega), if_pos (by omega)]
  have d : shN p i (k + 1) (k + 1) = p i := by unfold shN; rw [if_pos rfl]
  have e := WP_sw (H := H) (p := shN p i k) (q := shN p i (k + 1)) (t := k) (by rw [c, b]) (by rw [d, a]) (fun u x y => by
    unfold shN
    rw [if_neg y, if_neg x]
    by_cases z : i ≤ u ∧ u < k
    · rw [if_pos z, if_pos (by omega)]
    · rw [if_neg z, if_neg (by omega)]
      by_cases w : k < u ∧ u ≤ i
      · rw [if_pos w, if_pos (by omega)]
      · rw [if_neg w, if_neg (by omega)]) n (by omega)
  rw [e, a, b]
  omega
theorem WP_up {H : Nat → Nat → Int} {p : Nat → Nat} {i k n : Nat} (h : k + 1 ≤ i) (hi : i < n) : WP H (shN p i k) n = WP H (shN p i (k + 1)) n + H (p k) (p i) - H (p i) (p k) := by
  have a : shN p i (k + 1) (k + 1) = p i := by unfold shN; rw [if_pos rfl]
  have b : shN p i (k + 1) k = p k := by unfold shN; rw [if_neg (by omega), if_neg (by omega), if_neg (by omega)]
  have c : shN p i k k = p i := by unfold shN; rw [if_pos rfl]
  have d : shN p i k (k + 1) = p k := by unfold shN; rw [if_neg (by omega), if_neg (by omega), if_pos (by omega), show k + 1 - 1 = k by omega]
  have e := WP_sw (H := H) (p := shN p i (k + 1)) (q := shN p i k) (t := k) (by rw [c, a]) (by rw [d, b]) (fun u x y => by
    unfold shN
    rw [if_neg x, if_neg y]
    by_cases w : k < u ∧ u ≤ i
    · rw [if_neg (show ¬ (i ≤ u ∧ u < k) by omega), if_pos w, if_neg (show ¬ (i ≤ u ∧ u < k + 1) by omega), if_pos (show k + 1 < u ∧ u ≤ i by omega)]
    · rw [if_neg (show ¬ (i ≤ u ∧ u < k) by omega), if_neg w, if_neg (show ¬ (i ≤ u ∧ u < k + 1) by omega), if_neg (show ¬ (k + 1 < u ∧ u ≤ i) by omega)]) n (by omega)
  rw [e, a, b]
  omega
/-- there and back -/
theorem sh_back {p : Nat → Nat} {i k : Nat} : shN (shN p i k) k i = p := by
  funext j
  unfold shN
  by_cases a : j = i
  · rw [if_pos a, if_pos rfl, a]
  · rw [if_neg a]
    by_cases b : k ≤ j ∧ j < i
    · rw [if_pos b, if_neg (by omega), if_neg (by omega), if_pos (by omega), show j + 1 - 1 = j by omega]
    · rw [if_neg b]
      by_cases c : i < j ∧ j ≤ k
      · rw [if_pos c, if_neg (by omega), if_pos (by omega), show j - 1 + 1 = j by omega]
      · rw [if_neg c, if_neg (by omega), if_neg (by omega), if_neg (by omega)]
/-! moveSlot -/
theorem shN_src (p : Nat → Nat) (a b j : Nat) : shN p a b j = p (if j = b then a else if a ≤ j ∧ j < b then j + 1 else if b < j ∧ j ≤ a then j - 1 else j) := by
  unfold shN
  by_cases c1 : j = b
  · rw [if_pos c1, if_pos c1]
  · rw [if_neg c1, if_neg c1]
    by_cases c2 : a ≤ j ∧ j < b
    · rw [if_pos c2, if_pos c2]
    · rw [if_neg c2, if_neg c2]
      by_cases c3 : b < j ∧ j ≤ a
      · rw [if_pos c3, if_pos c3]
      · rw [if_neg c3, if_neg c3]
def srcN (a b j : Nat) : Nat := if j = b then a else if a ≤ j ∧ j < b then j + 1 else if b < j ∧ j ≤ a then j - 1 else j
theorem srcN_lt {a b j n : Nat} (ha : a < n) (hb : b < n) (hj : j < n) : srcN a b j < n := by
  unfold srcN
  split <;> (try split) <;> (try split) <;> omega
theorem srcN_inj {a b i j : Nat} (e : srcN a b i = srcN a b j) : i = j := by
  unfold srcN at e
  split at e <;> (try split at e) <;> (try split at e) <;> (try split at e) <;> (try split at e) <;> (try split at e) <;> omega
theorem SH_src (f : Nat → Int32) (a b j : Nat) : SH f a b j = f (srcN a b j) := by
  unfold SH srcN
  by_cases c1 : j = b
  · rw [if_pos c1, if_pos c1]
  · rw [if_neg c1, if_neg c1]
    by_cases c2 : a ≤ j ∧ j < b
    · rw [if_pos c2, if_pos c2]
    · rw [if_neg c2, if_neg c2]
      by_cases c3 : b < j ∧ j ≤ a
      · rw [if_pos c3, if_pos c3]
      · rw [if_neg c3, if_neg c3]
set_option maxHeartbeats 4000000 in
theorem c_move {s : Sg} {p : Nat → Nat} {n : Nat} {v1 v2 : Int32} (hl : LO s p n) (a0 : 0 ≤ v1.toInt) (a1 : v1.toInt < (n : Int)) (b0 : 0 ≤ v2.toInt) (b1 : v2.toInt < (n : Int)) : Ok (fun r => (∀ c, c ≠ 32 → c ≠ 33 → r c = s c) ∧ LO r (shN p v1.toInt.toNat v2.toInt.toNat) n) (fX7_moveSlot v1 v2 s) := by
  have r12 := rk_le s 12
  have wh := LO_wh hl
  obtain ⟨l1, l2⟩ := hl
  have n12 : n ≤ 12 := by omega
  obtain ⟨a, ea⟩ : ∃ a, a = v1.toInt.toNat := ⟨_, rfl⟩
  obtain ⟨b, eb⟩ : ∃ b, b = v2.toInt.toNat := ⟨_, rfl⟩
  rw [← ea, ← eb]
  have an : a < n := by omega
  have bn : b < n := by omega
  have qs : ∀ j, shN p a b j = p (srcN a b j) := fun j => shN_src p a b j
  unfold fX7_moveSlot
  refine ok_bnd1 (c_sh32 a0 (by omega) b0 (by omega)) (fun s1 h1 => ?_)
  obtain ⟨f1, f2⟩ := h1
  rw [← ea, ← eb] at f2
  have q32 : ∀ j, j < n → s1 32 j = Int32.ofNat (rk s (shN p a b j)) := fun j hj => by
    rw [f2 j, SH_src, qs j]
    exact (l2 _ (srcN_lt an bn hj)).2.2.1
  have qc : ∀ j, j < n → shN p a b j < 12 ∧ cnb s (shN p a b j) = true := fun j hj => by
    rw [qs j]
    have := l2 _ (srcN_lt an bn hj)
    exact ⟨this.1, this.2.1⟩
  have qi : ∀ i j, i < n → j < n → rk s (shN p a b i) = rk s (shN p a b j) → i = j := fun i j hi hj e => by
    have e2 := rk_inj (qc i hi).2 (qc j hj).2 e
    rw [qs i, qs j] at e2
    exact srcN_inj (wh.1 _ _ (srcN_lt an bn hi) (srcN_lt an bn hj) e2)
  refine ok_lt (fun x4 e4 => ?_)
  have e4' : x4.toInt.toNat = min a b ∧ 0 ≤ x4.toInt := by
    rw [e4]
    rcases ite_lt (a := v2) (b := v1) (x := v2) (y := v1) with ⟨z1, z2⟩ | ⟨z1, z2⟩
    · rw [z2]; omega
    · rw [z2]; omega
  have mx : (if v1 < v2 then v2 else v1).toInt = ((max a b : Nat) : Int) := by
    rcases ite_lt (a := v1) (b := v2) (x := v2) (y := v1) with ⟨z1, z2⟩ | ⟨z1, z2⟩
    · rw [z2]; omega
    · rw [z2]; omega
  unfold LX7_moveSlot_15
  refine ok_loop (I := fun (q : Int32 × Int32 × Int32 × Sg) => q.1 = v1 ∧ q.2.1 = v2 ∧ (min a b : Int) ≤ q.2.2.1.toInt ∧ q.2.2.1.toInt ≤ (max a b : Int) + 1 ∧ (∀ c, c ≠ 33 → q.2.2.2 c = s1 c) ∧ ∀ t, t < n → ((t : Int) < q.2.2.1.toInt ∨ max a b < t ∨ t < min a b) → q.2.2.2 33 (rk s (shN p a b t)) = Int32.ofNat t) (m := fun (q : Int32 × Int32 × Int32 × Sg) => (14 - q.2.2.1.toInt).toNat) _ ?_ ?_ _ ?_
  · intro q hq
    have := hq.2.2.1
    show (14 - q.2.2.1.toInt).toNat < 10000
    omega
  · intro rec q hq hrec
    obtain ⟨p1, p2, v3, t⟩ := q
    replace hq : p1 = v1 ∧ p2 = v2 ∧ (min a b : Int) ≤ v3.toInt ∧ v3.toInt ≤ (max a b : Int) + 1 ∧ (∀ c, c ≠ 33 → t c = s1 c) ∧ ∀ u, u < n → ((u : Int) < v3.toInt ∨ max a b < u ∨ u < min a b) → t 33 (rk s (shN p a b u)) = Int32.ofNat u := hq
    obtain ⟨g1, g2, q0, q1, q2, q3⟩ := hq
    rw [g1, g2]
    show Ok _ (fX7_moveSlot_15 rec v1 v2 v3 t)
    unfold fX7_moveSlot_15
    have hc := cl_i (i := v3) (by omega)
    refine ok_ite (fun c => ?_) (fun c => ?_)
    · replace c := i_lt.mp c
      rw [mx] at c
      have cc : ∀ x, cnb t x = cnb s x := fun x => cnb_cg (by rw [q2 1 (by decide), f1 1 (by decide)]) (by rw [q2 11 (by decide), f1 11 (by decide)]) (by rw [q2 13 (by decide), f1 13 (by decide)]) x
      have er : ∀ m, rk t m = rk s m := rk_cg cc
      refine ok_some ⟨fun c x y => by rw [q2 c y, f1 c x], by rw [er]; exact l1, fun i hi => ?_⟩
      rw [cc, er]
      refine ⟨(qc i hi).1, (qc i hi).2, by rw [q2 32 (by decide)]; exact q32 i hi, q3 i hi (by omega)⟩
    · replace c := i_nlt.mp c
      rw [mx] at c
      have v3n : v3.toInt.toNat < n := by omega
      have e3 : t 32 v3.toNatClampNeg = Int32.ofNat (rk s (shN p a b v3.toInt.toNat)) := by rw [q2 32 (by decide), show v3.toNatClampNeg = v3.toInt.toNat by omega]; exact q32 _ v3n
      have rl := rk_lt (qc _ v3n).2 (qc _ v3n).1
      have o := ofn_n (j := rk s (shN p a b v3.toInt.toNat)) (by omega)
      have hco := cl_i (i := Int32.ofNat (rk s (shN p a b v3.toInt.toNat))) (by omega)
      refine ok_gin (by omega) (by omega) ?_
      rw [e3]
      refine ok_gin (by omega) (by omega) ?_
      rw [show (Int32.ofNat (rk s (shN p a b v3.toInt.toNat))).toNatClampNeg = rk s (shN p a b v3.toInt.toNat) by omega]
      refine ok_lt (fun s4 e4 => ?_)
      refine ok_lt (fun x5 e5 => ?_)
      replace e5 : x5.toInt = v3.toInt + 1 := by rw [e5]; exact add_c 1 (by decide) (by omega) (by omega)
      refine hrec (v1, v2, x5, s4) ⟨rfl, rfl, by show (min a b : Int) ≤ x5.toInt; omega, by show x5.toInt ≤ (max a b : Int) + 1; omega, fun c hc => by show s4 c = s1 c; rw [e4, up2_n hc]; exact q2 c hc, fun u hu hcu => ?_⟩ (show (14 - x5.toInt).toNat < (14 - v3.toInt).toNat by omega)
      replace hcu : (u : Int) < x5.toInt ∨ max a b < u ∨ u < min a b := hcu
      show s4 33 (rk s (shN p a b u)) = Int32.ofNat u
      rw [e4, up2_is]
      by_cases w : u = v3.toInt.toNat
      · rw [if_pos ⟨rfl, by rw [w]⟩, w]
        exact of_i (by omega)
      · rw [if_neg (fun z => w (qi u _ hu v3n z.2))]
        exact q3 u hu (by omega)
  · refine ⟨rfl, rfl, by show (min a b : Int) ≤ x4.toInt; omega, by show x4.toInt ≤ (max a b : Int) + 1; omega, fun _ _ => rfl, fun t ht hc => ?_⟩
    replace hc : (t : Int) < x4.toInt ∨ max a b < t ∨ t < min a b := hc
    show s1 33 (rk s (shN p a b t)) = Int32.ofNat t
    have e : shN p a b t = p t := by
      unfold shN
      rw [if_neg (by omega), if_neg (by omega), if_neg (by omega)]
    rw [e, f1 33 (by decide)]
    exact (l2 t ht).2.2.2
/-! weighMoves -/
def Hs (s : Sg) (x y : Nat) : Int := pk s (rk s x) (rk s y)
theorem Hs_bd {s : Sg} (hI : IC0 s) (x y : Nat) : 0 ≤ Hs s x y ∧ Hs s x y ≤ 1000000 := rdC23 hI
/-- how much heavier after a move -/
def DW (s : Sg) (p : Nat → Nat) (n a k : Nat) : Int := WP (Hs s) (shN p a k) n - WP (Hs s) p n
theorem DW_bd {s : Sg} (hI : IC0 s) {p : Nat → Nat} {n a k : Nat} (hn : n ≤ 12) : -144000000 ≤ DW s p n a k ∧ DW s p n a k ≤ 144000000 := by
  have x := WT_bd (P := fun i t => Hs s (shN p a k i) (shN p a k t)) n hn (fun i t _ _ => Hs_bd hI _ _)
  have y := WT_bd (P := fun i t => Hs s (p i) (p t)) n hn (fun i t _ _ => Hs_bd hI _ _)
  unfold DW WP
  omega
theorem DW_self {s : Sg} {p : Nat → Nat} {n a : Nat} : DW s p n a a = 0 := by unfold DW; rw [sh_self]; omega
theorem pk_cg {s r : Sg} (e : r 23 = s 23) (x y : Nat) : pk r x y = pk s x y := by unfold pk; rw [e]
/-- a peck between a slot and one of the row -/
theorem peck_row {s r : Sg} {p : Nat → Nat} {n i j : Nat} (hl : LO s p n) (hi : i < n) (hj : j < n) (e32 : r 32 = s 32) (e23 : r 23 = s 23) : ∃ y, fX8_peckOf (r 32 i) (r 32 j) r = some (y, r) ∧ y.toInt = Hs s (p i) (p j) := by
  have r12 := rk_le s 12
  obtain ⟨l1, l2⟩ := hl
  obtain ⟨a1, a2, a3, -⟩ := l2 i hi
  obtain ⟨b1, b2, b3, -⟩ := l2 j hj
  have la := rk_lt a2 a1
  have lb := rk_lt b2 b1
  have oa := ofn_n (j := rk s (p i)) (by omega)
  have ob := ofn_n (j := rk s (p j)) (by omega)
  have ca := cl_i (i := Int32.ofNat (rk s (p i))) (by omega)
  have cb' := cl_i (i := Int32.ofNat (rk s (p j))) (by omega)
  rw [e32, a3, b3]
  refine ⟨_, peckOf_c (by omega) (by omega) (by omega) (by omega), ?_⟩
  unfold Hs pk
  rw [e23, show (Int32.ofNat (rk s (p i))).toNatClampNeg = rk s (p i) by omega, show (Int32.ofNat (rk s (p j))).toNatClampNeg = rk s (p j) by omega]
set_option maxHeartbeats 4000000 in
theorem c_weigh {s : Sg} {p : Nat → Nat} {n : Nat} {v1 : Int32} (hI : IC0 s) (hM : MC s) (hl : LO s p n) (a0 : 0 ≤ v1.toInt) (a1 : v1.toInt < (n : Int)) : Ok (fun r => (∀ c, c ≠ 34 → r c = s c) ∧ ∀ k, k < n → (r 34 k).toInt = DW s p n v1.toInt.toNat k) (fX7_weighMoves v1 s) := by
  have k0 : (0 : Int32).toInt = 0 := by decide
  have k1 : (1 : Int32).toInt = 1 := by decide
  have r12 := rk_le s 12
  have n12 : n ≤ 12 := by have := hl.1; omega
  have en : (s 3 2).toInt = (n : Int) := by rw [hM.1, hl.1]
  have hc1 := cl_i a0
  obtain ⟨a, ea⟩ : ∃ a, a = v1.toInt.toNat := ⟨_, rfl⟩
  have an : a < n := by omega
  have ec : v1.toNatClampNeg = a := by omega
  rw [← ea]
  have db := fun k => DW_bd (p := p) (a := a) (k := k) hI n12
  have hb2 := fun x y => Hs_bd hI x y
  -- upward
  have up : ∀ (t : Sg) (x : Int32), x.toInt = v1.toInt - 1 → (∀ c, c ≠ 34 → t c = s c) → (∀ k, a ≤ k → k < n → (t 34 k).toInt = DW s p n a k) → Ok (fun r => (∀ c, c ≠ 34 → r c = s c) ∧ ∀ k, k < n → (r 34 k).toInt = DW s p n a k) (LX7_weighMoves_83 (s 32 a, x, t)) := by
    intro t x hx ht hk
    unfold LX7_weighMoves_83
    refine ok_loop (I := fun (q : Int32 × Int32 × Sg) => q.1 = s 32 a ∧ -1 ≤ q.2.1.toInt ∧ q.2.1.toInt < (a : Int) ∧ (∀ c, c ≠ 34 → q.2.2 c = s c) ∧ ∀ k : Nat, q.2.1.toInt < (k : Int) → k < n → (q.2.2 34 k).toInt = DW s p n a k) (m := fun (q : Int32 × Int32 × Sg) => (q.2.1.toInt + 1).toNat) _ ?_ ?_ _ ?_
    · intro q hq
      have h1 := hq.2.1
      have h2 := hq.2.2.1
      show (q.2.1.toInt + 1).toNat < 10000
      omega
    · intro rec q hq hrec
      obtain ⟨p2, v3, u⟩ := q
      replace hq : p2 = s 32 a ∧ -1 ≤ v3.toInt ∧ v3.toInt < (a : Int) ∧ (∀ c, c ≠ 34 → u c = s c) ∧ ∀ k : Nat, v3.toInt < (k : Int) → k < n → (u 34 k).toInt = DW s p n a k := hq
      obtain ⟨g1, q0, q1, q2, q3⟩ := hq
      rw [g1]
      show Ok _ (fX7_weighMoves_83 rec (s 32 a) v3 u)
      unfold fX7_weighMoves_83
      refine ok_ite (fun c => ?_) (fun c => ?_)
      · replace c := i_lt.mp c
        exact ok_some ⟨q2, fun k hk => q3 k (by omega) hk⟩
      · replace c := i_nlt.mp c
        have hc3 := cl_i (i := v3) (by omega)
        have e3 : v3.toNatClampNeg = v3.toInt.toNat := by omega
        refine ok_lt (fun x2 e2 => ?_)
        replace e2 : x2.toInt = v3.toInt + 1 := by rw [e2]; exact add_c 1 k1 (by omega) (by omega)
        have hc2 := cl_i (i := x2) (by omega)
        refine ok_gin (by omega) (by omega) ?_
        refine ok_gin (by omega) (by omega) ?_
        have e32 : u 32 = s 32 := q2 32 (by decide)
        obtain ⟨y5, y5e, y5v⟩ := peck_row (i := v3.toInt.toNat) (j := a) hl (by omega) an e32 (q2 23 (by decide))
        obtain ⟨y9, y9e, y9v⟩ := peck_row (i := a) (j := v3.toInt.toNat) hl an (by omega) e32 (q2 23 (by decide))
        rw [e32] at y5e y9e
        rw [e32, e3]
        refine bnd2_of y5e ?_
        refine ok_gin (by omega) (by omega) ?_
        rw [e32]
        refine bnd2_of y9e ?_
        refine ok_lt (fun x12 e12 => ?_)
        have old := q3 (v3.toInt.toNat + 1) (by omega) (by omega)
        have rec1 := WP_up (H := Hs s) (p := p) (i := a) (k := v3.toInt.toNat) (n := n) (by omega) an
        have h5 := hb2 (p v3.toInt.toNat) (p a)
        have h9 := hb2 (p a) (p v3.toInt.toNat)
        have d1 := db (v3.toInt.toNat + 1)
        have e12' : x12.toInt = DW s p n a v3.toInt.toNat := by
          rw [show x2.toNatClampNeg = v3.toInt.toNat + 1 by omega] at e12
          rw [e12, sub_i (by rw [add_i (by omega) (by omega)]; omega) (by rw [add_i (by omega) (by omega)]; omega), add_i (by omega) (by omega), old, y5v, y9v]
          unfold DW
          omega
        refine ok_gin (by omega) (by omega) ?_
        refine ok_lt (fun s14 e14 => ?_)
        refine ok_lt (fun x15 e15 => ?_)
        replace e15 : x15.toInt = v3.toInt + (-1) := by rw [e15]; exact add_c (-1) (by decide) (by omega) (by omega)
        refine hrec (s 32 a, x15, s14) ⟨rfl, by show -1 ≤ x15.toInt; omega, by show x15.toInt < (a : Int); omega, fun c hc => by show s14 c = s c; rw [e14, up2_n hc]; exact q2 c hc, fun k hk1 hk2 => ?_⟩ (show (x15.toInt + 1).toNat < (v3.toInt + 1).toNat by omega)
        replace hk1 : x15.toInt < (k : Int) := hk1
        show (s14 34 k).toInt = DW s p n a k
        rw [e14, up2_is]
        by_cases w : k = v3.toInt.toNat
        · rw [if_pos ⟨rfl, w⟩, w]; exact e12'
        · rw [if_neg (fun z => w z.2)]; exact q3 k (by omega) hk2
    · exact ⟨rfl, by show -1 ≤ x.toInt; omega, by show x.toInt < (a : Int); omega, ht, fun k h1 h2 => hk k (by have h1' : x.toInt < (k : Int) := h1; omega) h2⟩
  unfold fX7_weighMoves
  refine ok_gin (by omega) (by omega) ?_
  rw [ec]
  refine ok_lt (fun x2 e2 => ?_)
  refine ok_gin (by omega) (by omega) ?_
  refine ok_lt (fun s4 e4 => ?_)
  refine ok_lt (fun x5 e5 => ?_)
  replace e5 : x5.toInt = v1.toInt + 1 := by rw [e5]; exact add_c 1 k1 (by omega) (by omega)
  subst e2
  unfold LX7_weighMoves_18
  refine ok_loop (I := fun (q : Int32 × Int32 × Int32 × Sg) => q.1 = v1 ∧ q.2.1 = s 32 a ∧ (a : Int) < q.2.2.1.toInt ∧ q.2.2.1.toInt ≤ (n : Int) ∧ (∀ c, c ≠ 34 → q.2.2.2 c = s c) ∧ ∀ k : Nat, a ≤ k → (k : Int) < q.2.2.1.toInt → (q.2.2.2 34 k).toInt = DW s p n a k) (m := fun (q : Int32 × Int32 × Int32 × Sg) => (14 - q.2.2.1.toInt).toNat) _ ?_ ?_ _ ?_
  · intro q hq
    have := hq.2.2.1
    show (14 - q.2.2.1.toInt).toNat < 10000
    omega
  · intro rec q hq hrec
    obtain ⟨p1, p2, v3, u⟩ := q
    replace hq : p1 = v1 ∧ p2 = s 32 a ∧ (a : Int) < v3.toInt ∧ v3.toInt ≤ (n : Int) ∧ (∀ c, c ≠ 34 → u c = s c) ∧ ∀ k : Nat, a ≤ k → (k : Int) < v3.toInt → (u 34 k).toInt = DW s p n a k := hq
    obtain ⟨g1, g2, q0, q1, q2, q3⟩ := hq
    rw [g1, g2]
    show Ok _ (fX7_weighMoves_18 rec v1 (s 32 a) v3 u)
    unfold fX7_weighMoves_18
    rw [q2 3 (by decide)]
    have hc3 := cl_i (i := v3) (by omega)
    have e3 : v3.toNatClampNeg = v3.toInt.toNat := by omega
    refine ok_ite (fun c => ?_) (fun c => ?_)
    · replace c := i_le.mp c
      refine ok_lt (fun x2 e2 => ?_)
      replace e2 : x2.toInt = v1.toInt - 1 := by rw [e2]; exact sub_c 1 k1 (by omega) (by omega)
      exact up u x2 e2 q2 (fun k h1 h2 => q3 k h1 (by omega))
    · replace c := i_nle.mp c
      refine ok_lt (fun x3 ex3 => ?_)
      replace ex3 : x3.toInt = v3.toInt - 1 := by rw [ex3]; exact sub_c 1 k1 (by omega) (by omega)
      have hcx := cl_i (i := x3) (by omega)
      refine ok_gin (by omega) (by omega) ?_
      refine ok_gin (by omega) (by omega) ?_
      have e32 : u 32 = s 32 := q2 32 (by decide)
      obtain ⟨y6, y6e, y6v⟩ := peck_row (i := a) (j := v3.toInt.toNat) hl an (by omega) e32 (q2 23 (by decide))
      obtain ⟨y10, y10e, y10v⟩ := peck_row (i := v3.toInt.toNat) (j := a) hl (by omega) an e32 (q2 23 (by decide))
      rw [e32] at y6e y10e
      rw [e32, e3]
      refine bnd2_of y6e ?_
      refine ok_gin (by omega) (by omega) ?_
      rw [e32]
      refine bnd2_of y10e ?_
      refine ok_lt (fun x13 e13 => ?_)
      have old := q3 (v3.toInt.toNat - 1) (by omega) (by omega)
      have rec1 := WP_down (H := Hs s) (p := p) (i := a) (k := v3.toInt.toNat - 1) (n := n) (by omega) (by omega)
      rw [show v3.toInt.toNat - 1 + 1 = v3.toInt.toNat by omega] at rec1
      have h6 := hb2 (p a) (p v3.toInt.toNat)
      have h10 := hb2 (p v3.toInt.toNat) (p a)
      have d1 := db (v3.toInt.toNat - 1)
      have e13' : x13.toInt = DW s p n a v3.toInt.toNat := by
        rw [show x3.toNatClampNeg = v3.toInt.toNat - 1 by omega] at e13
        rw [e13, sub_i (by rw [add_i (by omega) (by omega)]; omega) (by rw [add_i (by omega) (by omega)]; omega), add_i (by omega) (by omega), old, y6v, y10v]
        unfold DW
        omega
      refine ok_gin (by omega) (by omega) ?_
      refine ok_lt (fun s15 e15 => ?_)
      refine ok_lt (fun x16 e16 => ?_)
      replace e16 : x16.toInt = v3.toInt + 1 := by rw [e16]; exact add_c 1 k1 (by omega) (by omega)
      refine hrec (v1, s 32 a, x16, s15) ⟨rfl, rfl, by show (a : Int) < x16.toInt; omega, by show x16.toInt ≤ (n : Int); omega, fun c hc => by show s15 c = s c; rw [e15, up2_n hc]; exact q2 c hc, fun k hk1 hk2 => ?_⟩ (show (14 - x16.toInt).toNat < (14 - v3.toInt).toNat by omega)
      replace hk2 : (k : Int) < x16.toInt := hk2
      show (s15 34 k).toInt = DW s p n a k
      rw [e15, up2_is]
      by_cases w : k = v3.toInt.toNat
      · rw [if_pos ⟨rfl, w⟩, w]; exact e13'
      · rw [if_neg (fun z => w z.2)]; exact q3 k hk1 (by omega)
  · refine ⟨rfl, rfl, by show (a : Int) < x5.toInt; omega, by show x5.toInt ≤ (n : Int); omega, fun c hc => by show s4 c = s c; rw [e4, up2_n hc], fun k h1 h2 => ?_⟩
    replace h2 : (k : Int) < x5.toInt := h2
    show (s4 34 k).toInt = DW s p n a k
    have ek : k = a := by omega
    rw [ek, e4, up2_e, DW_self]
    exact k0
/-! isLawfulAfter -/
/-- everyone in the row stands as he asks -/
def Law (s : Sg) (q : Nat → Nat) (n : Nat) : Prop := ∀ i, i < n → Kept s q n i
theorem Wt_cg {s r : Sg} (e : ∀ c, c ≠ 32 → c ≠ 33 → c ≠ 34 → r c = s c) (h k : Nat) : Wt r h k ↔ Wt s h k := by
  have cc : ∀ x, cnb r x = cnb s x := fun x => cnb_cg (e 1 (by decide) (by decide) (by decide)) (e 11 (by decide) (by decide) (by decide)) (e 13 (by decide) (by decide) (by decide)) x
  unfold Wt
  rw [cc, cc, e 11 (by decide) (by decide) (by decide), e 12 (by decide) (by decide) (by decide)]
theorem Kept_cg {s r : Sg} (e : ∀ c, c ≠ 32 → c ≠ 33 → c ≠ 34 → r c = s c) (q : Nat → Nat) (n i : Nat) : Kept r q n i ↔ Kept s q n i := by
  unfold Kept
  rw [e 11 (by decide) (by decide) (by decide)]
  constructor
  · intro h k j a b c
    exact h k j ((Wt_cg e _ _).mpr a) b c
  · intro h k j a b c
    exact h k j ((Wt_cg e _ _).mp a) b c
theorem Law_cg {s r : Sg} (e : ∀ c, c ≠ 32 → c ≠ 33 → c ≠ 34 → r c = s c) (q : Nat → Nat) (n : Nat) : Law r q n ↔ Law s q n := by
  constructor
  · intro h i hi; exact (Kept_cg e q n i).mp (h i hi)
  · intro h i hi; exact (Kept_cg e q n i).mpr (h i hi)
theorem ic_s33 {C r : Sg} {p : Nat → Nat} {n : Nat} (h : IC0 C) (e : ∀ c, c ≠ 32 → c ≠ 33 → r c = C c) (r32 : ∀ j, 0 ≤ (r 32 j).toInt ∧ (r 32 j).toInt ≤ 11) (r33 : ∀ j, 0 ≤ (r 33 j).toInt ∧ (r 33 j).toInt ≤ 11) : IC0 r := by
  refine ⟨fun k j => ?_, fun k j hk => by rw [e k (by omega) (by omega)]; exact h.2 k j hk⟩
  by_cases c : k = 32
  · subst c; exact r32 j
  · by_cases d : k = 33
    · subst d; exact r33 j
    · rw [e k c d]; exact h.1 k j
theorem c_lawful {s : Sg} {p : Nat → Nat} {n : Nat} {v1 v2 : Int32} (hI : IC s) (hM : MC s) (hl : LO s p n) (a0 : 0 ≤ v1.toInt) (a1 : v1.toInt < (n : Int)) (b0 : 0 ≤ v2.toInt) (b1 : v2.toInt < (n : Int)) : Ok (fun q => (∀ c, c ≠ 32 → c ≠ 33 → q.2 c = s c) ∧ LO q.2 p n ∧ ((q.1 = 1 ∧ Law s (shN p v1.toInt.toNat v2.toInt.toNat) n) ∨ (q.1 = 0 ∧ ¬ Law s (shN p v1.toInt.toNat v2.toInt.toNat) n))) (fX7_isLawfulAfter v1 v2 s) := by
  have r12 := rk_le s 12
  have n12 : n ≤ 12 := by have := hl.1; omega
  unfold fX7_isLawfulAfter
  refine ok_bnd1 (ok_and (sX7_moveSlot hI a0 (by omega) b0 (by omega)) (c_move hl a0 a1 b0 b1)) (fun s1 h1 => ?_)
  obtain ⟨⟨i1, -⟩, f1, l1⟩ := h1
  have m1 : MC s1 := MC_cg hM (by rw [f1 1 (by decide) (by decide)]) (by rw [f1 3 (by decide) (by decide)]) (f1 11 (by decide) (by decide)) (f1 12 (by decide) (by decide)) (f1 13 (by decide) (by decide)) (f1 15 (by decide) (by decide)) (fun k a b => f1 k (by omega) (by omega))
  refine ok_bnd2 (c_fault i1.1 m1 l1) (fun y s2 h2 => ?_)
  obtain ⟨g1, g2⟩ := h2
  replace g1 : s2 = s1 := g1
  replace g2 : FLx s1 (shN p v1.toInt.toNat v2.toInt.toNat) n y := g2
  rw [g1]
  have lc := Law_cg (s := s) (r := s1) (fun c x y z => f1 c x y) (shN p v1.toInt.toNat v2.toInt.toNat) n
  -- back again
  have back : ∀ w : Int32, ((w = 1 ∧ Law s (shN p v1.toInt.toNat v2.toInt.toNat) n) ∨ (w = 0 ∧ ¬ Law s (shN p v1.toInt.toNat v2.toInt.toNat) n)) → Ok (fun (q : Int32 × Sg) => (∀ c, c ≠ 32 → c ≠ 33 → q.2 c = s c) ∧ LO q.2 p n ∧ ((q.1 = 1 ∧ Law s (shN p v1.toInt.toNat v2.toInt.toNat) n) ∨ (q.1 = 0 ∧ ¬ Law s (shN p v1.toInt.toNat v2.toInt.toNat) n))) (fX7_isLawfulAfter_22 v1 v2 w s1) := by
    intro w hw
    unfold fX7_isLawfulAfter_22
    refine ok_bnd1 (c_move (v1 := v2) (v2 := v1) l1 b0 b1 a0 a1) (fun s3 h3 => ?_)
    obtain ⟨f3, l3⟩ := h3
    rw [sh_back] at l3
    rcases hw with ⟨z1, z2⟩ | ⟨z1, z2⟩
    · rw [z1, gz1]
      exact ok_some ⟨fun c x y => by show s3 c = s c; rw [f3 c x y, f1 c x y], l3, Or.inl ⟨rfl, z2⟩⟩
    · rw [z1, gz0]
      exact ok_some ⟨fun c x y => by show s3 c = s c; rw [f3 c x y, f1 c x y], l3, Or.inr ⟨rfl, z2⟩⟩
  rcases g2 with ⟨z1, z2⟩ | ⟨i, z1, z2, z3, -⟩
  · rw [z1, if_pos rfl]
    exact back 1 (Or.inl ⟨rfl, lc.mp z2⟩)
  · have pl := (l1.2 i z1).1
    have o := ofn_n pl
    rw [if_neg (fun z => by
      have := congrArg Int64.toInt (z3.symm.trans z)
      rw [Int32.toInt_toInt64, o] at this
      have kk : (-2000000005 : Int64).toInt = -2000000005 := by decide
      omega)]
    exact back 0 (Or.inr ⟨rfl, fun z => z2 ((lc.mpr z) i z1)⟩)
/-! improve -/
def Mv (s : Sg) (p : Nat → Nat) (n i k : Nat) : Prop := i < n ∧ k < n ∧ DW s p n i k < 0 ∧ Law s (shN p i k) n
def LEx (s : Sg) (p : Nat → Nat) (n i k i' k' : Nat) : Prop := DW s p n i k < DW s p n i' k' ∨ (DW s p n i k = DW s p n i' k' ∧ (p i < p i' ∨ (p i = p i' ∧ k ≤ k')))
/-- the best of the moves that have been looked at -/
def BSF (s : Sg) (p : Nat → Nat) (n : Nat) (C : Nat → Nat → Prop) (v1 v2 v3 : Int32) : Prop := (v1 = 0 ∧ v2 = -1 ∧ ∀ i k, C i k → ¬ Mv s p n i k) ∨ ∃ i0 k0, C i0 k0 ∧ Mv s p n i0 k0 ∧ v1.toInt = DW s p n i0 k0 ∧ v2 = Int32.ofNat i0 ∧ v3 = Int32.ofNat k0 ∧ ∀ i k, C i k → Mv s p n i k → LEx s p n i0 k0 i k
theorem BSF_cg {s : Sg} {p : Nat → Nat} {n : Nat} {C D : Nat → Nat → Prop} {v1 v2 v3 : Int32} (h : BSF s p n C v1 v2 v3) (e : ∀ i k, i < n → k < n → (C i k ↔ D i k)) : BSF s p n D v1 v2 v3 := by
  rcases h with ⟨a, b, c⟩ | ⟨i0, k0, a, b, c, d, f, g⟩
  · exact Or.inl ⟨a, b, fun i k hd hm => c i k ((e i k hm.1 hm.2.1).mpr hd) hm⟩
  · exact Or.inr ⟨i0, k0, (e i0 k0 b.1 b.2.1).mp a, b, c, d, f, fun i k hd hm => g i k ((e i k hm.1 hm.2.1).mpr hd) hm⟩
/-- what improve answers and leaves -/
def IMP (s : Sg) (p : Nat → Nat) (n : Nat) (q : Int32 × Sg) : Prop := IC q.2 ∧ (∀ c, c ≠ 32 → c ≠ 33 → c ≠ 34 → q.2 c = s c) ∧ ((q.1 = 0 ∧ LO q.2 p n ∧ ∀ i k, ¬ Mv s p n i k) ∨ (q.1 = 1 ∧ ∃ i0 k0, Mv s p n i0 k0 ∧ LO q.2 (shN p i0 k0) n ∧ ∀ i k, Mv s p n i k → LEx s p n i0 k0 i k))
theorem LO_cg {s r : Sg} {p : Nat → Nat} {n : Nat} (h : LO s p n) (e : ∀ c, c ≠ 34 → r c = s c) : LO r p n := by
  have cc : ∀ x, cnb r x = cnb s x := fun x => cnb_cg (e 1 (by decide)) (e 11 (by decide)) (e 13 (by decide)) x
  have er : ∀ m, rk r m = rk s m := rk_cg cc
  refine ⟨by rw [er]; exact h.1, fun i hi => ?_⟩
  rw [cc, er, e 32 (by decide), e 33 (by decide)]
  exact h.2 i hi
theorem DW_cg {s r : Sg} (e : ∀ c, c ≠ 32 → c ≠ 33 → c ≠ 34 → r c = s c) (p : Nat → Nat) (n a k : Nat) : DW r p n a k = DW s p n a k := by
  have cc : ∀ x, cnb r x = cnb s x := fun x => cnb_cg (e 1 (by decide) (by decide) (by decide)) (e 11 (by decide) (by decide) (by decide)) (e 13 (by decide) (by decide) (by decide)) x
  have er : ∀ m, rk r m = rk s m := rk_cg cc
  have eh : Hs r = Hs s := by
    funext x y
    unfold Hs
    rw [er, er, pk_cg (e 23 (by decide) (by decide) (by decide))]
  unfold DW
  rw [eh]
set_option maxHeartbeats 4000000 in
theorem imp_39 {s s0 : Sg} {p : Nat → Nat} {n i0 : Nat} {v1 v2 v3 v4 v5 : Int32} {P : Int32 × Sg → Prop} {r9 : (Int32 × Int32 × Int32 × Int32 × Sg) → Option (Int32 × Sg)} (hM : MC s) (hl0 : LO s p n) (hi0 : i0 < n) (h4 : v4 = Int32.ofNat (rk s (p i0))) (h5 : v5 = Int32.ofNat i0) (hI : IC s0) (fr : ∀ c, c ≠ 32 → c ≠ 33 → c ≠ 34 → s0 c = s c) (hl : LO s0 p n) (hw : ∀ k, k < n → (s0 34 k).toInt = DW s p n i0 k) (hb : BSF s p n (fun i _ => rk s (p i) < rk s (p i0)) v1 v2 v3)
    (hr : ∀ (w1 w2 w3 x : Int32) (t : Sg), x.toInt = (rk s (p i0) : Int) + 1 → IC t → (∀ c, c ≠ 32 → c ≠ 33 → c ≠ 34 → t c = s c) → LO t p n → BSF s p n (fun i _ => rk s (p i) < rk s (p i0) + 1) w1 w2 w3 → Ok P (r9 (w1, w2, w3, x, t))) : Ok P (LX7_improve_39 r9 (v1, v2, v3, v4, v5, (0 : Int32), s0)) := by
  have k0 : (0 : Int32).toInt = 0 := by decide
  have r12 := rk_le s 12
  have wh := LO_wh hl0
  have n12 : n ≤ 12 := by have := hl0.1; omega
  have en : (s 3 2).toInt = (n : Int) := by rw [hM.1, hl0.1]
  have li := hl0.2 i0 hi0
  have rl := rk_lt li.2.1 li.1
  have o4 := ofn_n (j := rk s (p i0)) (by omega)
  have o5 := ofn_n (j := i0) (by omega)
  unfold LX7_improve_39
  refine ok_loop (I := fun (q : Int32 × Int32 × Int32 × Int32 × Int32 × Int32 × Sg) => q.2.2.2.1 = v4 ∧ q.2.2.2.2.1 = v5 ∧ 0 ≤ q.2.2.2.2.2.1.toInt ∧ q.2.2.2.2.2.1.toInt ≤ (n : Int) ∧ IC q.2.2.2.2.2.2 ∧ (∀ c, c ≠ 32 → c ≠ 33 → c ≠ 34 → q.2.2.2.2.2.2 c = s c) ∧ LO q.2.2.2.2.2.2 p n ∧ (∀ k, k < n → (q.2.2.2.2.2.2 34 k).toInt = DW s p n i0 k) ∧ BSF s p n (fun i k => rk s (p i) < rk s (p i0) ∨ (i = i0 ∧ (k : Int) < q.2.2.2.2.2.1.toInt)) q.1 q.2.1 q.2.2.1) (m := fun (q : Int32 × Int32 × Int32 × Int32 × Int32 × Int32 × Sg) => (13 - q.2.2.2.2.2.1.toInt).toNat) _ ?_ ?_ _ ?_
  · intro q hq
    have := hq.2.2.1
    show (13 - q.2.2.2.2.2.1.toInt).toNat < 10000
    omega
  · intro rec q hq hrec
    obtain ⟨w1, w2, w3, q4, q5, v6, t⟩ := q
    replace hq : q4 = v4 ∧ q5 = v5 ∧ 0 ≤ v6.toInt ∧ v6.toInt ≤ (n : Int) ∧ IC t ∧ (∀ c, c ≠ 32 → c ≠ 33 → c ≠ 34 → t c = s c) ∧ LO t p n ∧ (∀ k, k < n → (t 34 k).toInt = DW s p n i0 k) ∧ BSF s p n (fun i k => rk s (p i) < rk s (p i0) ∨ (i = i0 ∧ (k : Int) < v6.toInt)) w1 w2 w3 := hq
    obtain ⟨g1, g2, q0, q1, it, ft, lt', wt, bs⟩ := hq
    rw [g1, g2]
    show Ok P (fX7_improve_39 r9 rec w1 w2 w3 v4 v5 v6 t)
    unfold fX7_improve_39
    rw [ft 3 (by decide) (by decide) (by decide)]
    have hc6 := cl_i q0
    have go : ∀ (u1 u2 u3 : Int32) (t' : Sg), v6.toInt < (n : Int) → IC t' → (∀ c, c ≠ 32 → c ≠ 33 → c ≠ 34 → t' c = s c) → LO t' p n → (∀ k, k < n → (t' 34 k).toInt = DW s p n i0 k) → BSF s p n (fun i k => rk s (p i) < rk s (p i0) ∨ (i = i0 ∧ (k : Int) < v6.toInt + 1)) u1 u2 u3 → Ok P (fX7_improve_87 r9 rec u1 u2 u3 v4 v5 v6 t') := by
      intro u1 u2 u3 t' b0 b1 b2 b3 b4 b5
      unfold fX7_improve_87
      refine ok_lt (fun x e => ?_)
      replace e : x.toInt = v6.toInt + 1 := by rw [e]; exact add_c 1 (by decide) (by omega) (by omega)
      refine hrec (u1, u2, u3, v4, v5, x, t') ⟨rfl, rfl, by show 0 ≤ x.toInt; omega, by show x.toInt ≤ (n : Int); omega, b1, b2, b3, b4, ?_⟩ (show (13 - x.toInt).toNat < (13 - v6.toInt).toNat by omega)
      show BSF s p n (fun i k => rk s (p i) < rk s (p i0) ∨ (i = i0 ∧ (k : Int) < x.toInt)) u1 u2 u3
      rw [e]; exact b5
    refine ok_ite (fun c => ?_) (fun c => ?_)
    · replace c := i_le.mp c
      refine ok_lt (fun x e => ?_)
      replace e : x.toInt = (rk s (p i0) : Int) + 1 := by rw [e, h4]; rw [add_c 1 (by decide) (by omega) (by omega), o4]
      refine hr w1 w2 w3 x t e it ft lt' (BSF_cg bs (fun i k hi hk => ?_))
      constructor
      · rintro (z | ⟨z, -⟩)
        · show _ < _; omega
        · rw [z]; show _ < _; omega
      · intro z
        replace z : rk s (p i) < rk s (p i0) + 1 := z
        by_cases y : rk s (p i) < rk s (p i0)
        · exact Or.inl y
        · have e2 := rk_inj (hl0.2 i hi).2.1 li.2.1 (by omega)
          exact Or.inr ⟨wh.1 i i0 hi hi0 e2, by omega⟩
    · replace c := i_nle.mp c
      rw [en] at c
      have kn : v6.toInt.toNat < n := by omega
      have w6 := wt v6.toInt.toNat kn
      refine ok_gin (by omega) (by omega) ?_
      rw [show v6.toNatClampNeg = v6.toInt.toNat by omega]
      -- the new move is not taken
      have keep : (Mv s p n i0 v6.toInt.toNat → w1.toInt ≤ DW s p n i0 v6.toInt.toNat) → BSF s p n (fun i k => rk s (p i) < rk s (p i0) ∨ (i = i0 ∧ (k : Int) < v6.toInt + 1)) w1 w2 w3 := by
        intro hk
        rcases bs with ⟨b1, b2, b3⟩ | ⟨i1, k1, b1, b2, b3, b4, b5, b6⟩
        · refine Or.inl ⟨b1, b2, fun i k hck hm => ?_⟩
          rcases hck with z | ⟨z1, z2⟩
          · exact b3 i k (Or.inl z) hm
          · by_cases y : (k : Int) < v6.toInt
            · exact b3 i k (Or.inr ⟨z1, y⟩) hm
            · have ek : k = v6.toInt.toNat := by omega
              rw [z1, ek] at hm
              have := hk hm
              rw [b1, k0] at this
              have := hm.2.2.1
              omega
        · refine Or.inr ⟨i1, k1, ?_, b2, b3, b4, b5, fun i k hck hm => ?_⟩
          · rcases b1 with z | ⟨z1, z2⟩
            · exact Or.inl z
            · exact Or.inr ⟨z1, by omega⟩
          · rcases hck with z | ⟨z1, z2⟩
            · exact b6 i k (Or.inl z) hm
            · by_cases y : (k : Int) < v6.toInt
              · exact b6 i k (Or.inr ⟨z1, y⟩) hm
              · have ek : k = v6.toInt.toNat := by omega
                rw [z1, ek] at hm ⊢
                have h1 := hk hm
                rw [b3] at h1
                by_cases x : DW s p n i1 k1 < DW s p n i0 v6.toInt.toNat
                · exact Or.inl x
                · refine Or.inr ⟨by omega, ?_⟩
                  rcases b1 with z | ⟨z1', z2'⟩
                  · left
                    have l1 := hl0.2 i1 b2.1
                    refine Decidable.byContradiction fun w => ?_
                    have := rk_mono (sg := s) (show p i0 ≤ p i1 by omega)
                    omega
                  · right
                    exact ⟨by rw [z1'], by omega⟩
      refine ok_ite (fun d => ?_) (fun d => ?_)
      · replace d := i_le.mp d
        exact go w1 w2 w3 t c it ft lt' wt (keep (fun _ => by omega))
      · replace d := i_nle.mp d
        have mt : MC t := MC_cg hM (by rw [ft 1 (by decide) (by decide) (by decide)]) (by rw [ft 3 (by decide) (by decide) (by decide)]) (ft 11 (by decide) (by decide) (by decide)) (ft 12 (by decide) (by decide) (by decide)) (ft 13 (by decide) (by decide) (by decide)) (ft 15 (by decide) (by decide) (by decide)) (fun k a b => ft k (by omega) (by omega) (by omega))
        refine ok_bnd2 (ok_and (sX7_isLawfulAfter (v1 := v5) (v2 := v6) it (by rw [h5]; omega) (by rw [h5]; omega) q0 (by omega)) (c_lawful (v1 := v5) (v2 := v6) it mt lt' (by rw [h5]; omega) (by rw [h5]; omega) q0 c)) (fun y t2 h2 => ?_)
        obtain ⟨sf, f2, l2, alt⟩ := h2
        have i2 : IC t2 := sf.1.1
        replace f2 : ∀ c, c ≠ 32 → c ≠ 33 → t2 c = t c := f2
        replace l2 : LO t2 p n := l2
        have e5 : v5.toInt.toNat = i0 := by rw [h5, o5]; rfl
        rw [e5] at alt
        have lc := Law_cg (s := s) (r := t) ft (shN p i0 v6.toInt.toNat) n
        have ft2 : ∀ c, c ≠ 32 → c ≠ 33 → c ≠ 34 → t2 c = s c := fun c x y z => by rw [f2 c x y]; exact ft c x y z
        have wt2 : ∀ k, k < n → (t2 34 k).toInt = DW s p n i0 k := fun k hk => by rw [f2 34 (by decide) (by decide)]; exact wt k hk
        replace alt : (y = 1 ∧ Law t (shN p i0 v6.toInt.toNat) n) ∨ (y = 0 ∧ ¬ Law t (shN p i0 v6.toInt.toNat) n) := alt
        rcases alt with ⟨z1, z2⟩ | ⟨z1, z2⟩
        · rw [z1, ite1]
          refine ok_gin (by omega) (by omega) ?_
          refine ok_lt (fun x10 e10 => ?_)
          rw [f2 34 (by decide) (by decide)] at e10
          have ev : x10.toInt = DW s p n i0 v6.toInt.toNat := by rw [e10]; exact w6
          have w1le : w1.toInt ≤ 0 := by
            rcases bs with ⟨b1, -⟩ | ⟨i1, k1, -, b2, b3, -⟩
            · rw [b1]; omega
            · have := b2.2.2.1; omega
          refine go x10 v5 v6 t2 c i2 ft2 l2 wt2 (Or.inr ⟨i0, v6.toInt.toNat, Or.inr ⟨rfl, by omega⟩, ⟨hi0, kn, by omega, lc.mp z2⟩, ev, h5, of_i q0, fun i k hck hm => ?_⟩)
          have old : (rk s (p i) < rk s (p i0) ∨ (i = i0 ∧ (k : Int) < v6.toInt)) → LEx s p n i0 v6.toInt.toNat i k := by
            intro hc
            rcases bs with ⟨-, -, b3⟩ | ⟨i1, k1, -, b2, b3, -, -, b6⟩
            · exact absurd hm (b3 i k hc)
            · left
              have le := b6 i k hc hm
              have : DW s p n i1 k1 ≤ DW s p n i k := by
                rcases le with x | x
                · omega
                · omega
              omega
          rcases hck with z | ⟨z1', z2'⟩
          · exact old (Or.inl z)
          · by_cases y : (k : Int) < v6.toInt
            · exact old (Or.inr ⟨z1', y⟩)
            · rw [z1', show k = v6.toInt.toNat by omega]
              exact Or.inr ⟨rfl, Or.inr ⟨rfl, Nat.le_refl _⟩⟩
        · rw [z1, ite0]
          exact go w1 w2 w3 t2 c i2 ft2 l2 wt2 (keep (fun hm => absurd (lc.mpr hm.2.2.2) z2))
  · refine ⟨rfl, rfl, by show 0 ≤ (0 : Int32).toInt; omega, by show (0 : Int32).toInt ≤ (n : Int); omega, hI, fr, hl, hw, BSF_cg hb (fun i k _ _ => ?_)⟩
    constructor
    · intro z; exact Or.inl z
    · rintro (z | ⟨-, z⟩)
      · exact z
      · have z' : (k : Int) < (0 : Int32).toInt := z
        omega
set_option maxHeartbeats 4000000 in
theorem c_improve {s : Sg} {p : Nat → Nat} {n : Nat} (hI : IC s) (hM : MC s) (hl : LO s p n) : Ok (IMP s p n) (fX7_improve s) := by
  have k0 : (0 : Int32).toInt = 0 := by decide
  have km : (-1 : Int32).toInt = -1 := by decide
  have r12 := rk_le s 12
  have wh := LO_wh hl
  have n12 : n ≤ 12 := by have := hl.1; omega
  have en : (s 3 2).toInt = (n : Int) := by rw [hM.1, hl.1]
  unfold fX7_improve LX7_improve_9
  refine ok_loop (I := fun (q : Int32 × Int32 × Int32 × Int32 × Sg) => 0 ≤ q.2.2.2.1.toInt ∧ q.2.2.2.1.toInt ≤ (n : Int) ∧ IC q.2.2.2.2 ∧ (∀ c, c ≠ 32 → c ≠ 33 → c ≠ 34 → q.2.2.2.2 c = s c) ∧ LO q.2.2.2.2 p n ∧ BSF s p n (fun i _ => rk s (p i) < q.2.2.2.1.toInt.toNat) q.1 q.2.1 q.2.2.1) (m := fun (q : Int32 × Int32 × Int32 × Int32 × Sg) => (13 - q.2.2.2.1.toInt).toNat) _ ?_ ?_ _ ?_
  · intro q hq
    have := hq.1
    show (13 - q.2.2.2.1.toInt).toNat < 10000
    omega
  · intro rec q hq hrec
    obtain ⟨v1, v2, v3, v4, t⟩ := q
    replace hq : 0 ≤ v4.toInt ∧ v4.toInt ≤ (n : Int) ∧ IC t ∧ (∀ c, c ≠ 32 → c ≠ 33 → c ≠ 34 → t c = s c) ∧ LO t p n ∧ BSF s p n (fun i _ => rk s (p i) < v4.toInt.toNat) v1 v2 v3 := hq
    obtain ⟨q0, q1, it, ft, lt', bs⟩ := hq
    show Ok _ (fX7_improve_9 rec v1 v2 v3 v4 t)
    unfold fX7_improve_9
    rw [ft 3 (by decide) (by decide) (by decide)]
    have hc4 := cl_i q0
    have cc : ∀ x, cnb t x = cnb s x := fun x => cnb_cg (ft 1 (by decide) (by decide) (by decide)) (ft 11 (by decide) (by decide) (by decide)) (ft 13 (by decide) (by decide) (by decide)) x
    have er : ∀ m, rk t m = rk s m := rk_cg cc
    have mt : MC t := MC_cg hM (by rw [ft 1 (by decide) (by decide) (by decide)]) (by rw [ft 3 (by decide) (by decide) (by decide)]) (ft 11 (by decide) (by decide) (by decide)) (ft 12 (by decide) (by decide) (by decide)) (ft 13 (by decide) (by decide) (by decide)) (ft 15 (by decide) (by decide) (by decide)) (fun k a b => ft k (by omega) (by omega) (by omega))
    refine ok_ite (fun c => ?_) (fun c => ?_)
    · replace c := i_le.mp c
      rw [en] at c
      have all : ∀ i, i < n → rk s (p i) < v4.toInt.toNat := fun i hi => by
        have l := hl.2 i hi
        have := rk_lt l.2.1 l.1
        rw [← hl.1] at this
        omega
      rcases bs with ⟨b1, b2, b3⟩ | ⟨i1, j1, b1, b2, b3, b4, b5, b6⟩
      · rw [if_pos b2]
        exact ok_some ⟨it, ft, Or.inl ⟨rfl, lt', fun i k hm => b3 i k (all i hm.1) hm⟩⟩
      · have o2 := ofn_n (j := i1) (by have := b2.1; omega)
        have o3 := ofn_n (j := j1) (by have := b2.2.1; omega)
        have n1 := b2.1
        have n2 := b2.2.1
        rw [if_neg (fun z => by rw [b4] at z; have := congrArg Int32.toInt z; omega)]
        refine ok_bnd1 (ok_and (sX7_moveSlot (v1 := v2) (v2 := v3) it (by rw [b4]; omega) (by rw [b4]; omega) (by rw [b5]; omega) (by rw [b5]; omega)) (c_move (v1 := v2) (v2 := v3) lt' (by rw [b4]; omega) (by rw [b4]; omega) (by rw [b5]; omega) (by rw [b5]; omega))) (fun s3 h3 => ?_)
        obtain ⟨⟨i3, -⟩, f3, l3⟩ := h3
        rw [show v2.toInt.toNat = i1 by rw [b4, o2]; rfl, show v3.toInt.toNat = j1 by rw [b5, o3]; rfl] at l3
        exact ok_some ⟨i3, fun c x y z => by show s3 c = s c; rw [f3 c x y]; exact ft c x y z, Or.inr ⟨rfl, i1, j1, b2, l3, fun i k hm => b6 i k (all i hm.1) hm⟩⟩
    · replace c := i_nle.mp c
      rw [en] at c
      obtain ⟨h, h1, h2, h3⟩ := rk_onto (sg := s) 12 v4.toInt.toNat (by rw [← hl.1]; omega)
      obtain ⟨i0, i1, i2⟩ := (wh.2 h h1).mp h2
      subst i2
      have o0 := ofn_n (j := i0) (by omega)
      have ev : v4 = Int32.ofNat (rk s (p i0)) := by
        have := of_i q0
        rw [this, h3]
      refine ok_gin (by omega) (by omega) ?_
      refine ok_lt (fun x6 e6 => ?_)
      have ex : x6 = Int32.ofNat i0 := by
        have := (lt'.2 i0 i1).2.2.2
        rw [er] at this
        rw [e6, show v4.toNatClampNeg = rk s (p i0) by omega]
        exact this
      refine ok_bnd1 (ok_and (sX7_weighMoves (v1 := x6) it (by rw [ex]; omega) (by rw [ex]; omega)) (c_weigh (v1 := x6) it.1 mt lt' (by rw [ex]; omega) (by rw [ex]; omega))) (fun t7 h7 => ?_)
      obtain ⟨⟨i7, -⟩, f7, w7⟩ := h7
      rw [show x6.toInt.toNat = i0 by rw [ex, o0]; rfl] at w7
      refine imp_39 (s := s) (i0 := i0) hM hl i1 ev ex i7 (fun c x y z => by rw [f7 c z]; exact ft c x y z) (LO_cg lt' f7) (fun k hk => by rw [w7 k hk]; exact DW_cg ft p n i0 k) (by rw [h3]; exact bs) (fun w1 w2 w3 x t' a1 a2 a3 a4 a5 => ?_)
      refine hrec (w1, w2, w3, x, t') ⟨by show 0 ≤ x.toInt; omega, by show x.toInt ≤ (n : Int); omega, a2, a3, a4, ?_⟩ (show (13 - x.toInt).toNat < (13 - v4.toInt).toNat by omega)
      show BSF s p n (fun i _ => rk s (p i) < x.toInt.toNat) w1 w2 w3
      rw [show x.toInt.toNat = rk s (p i0) + 1 by omega]
      exact a5
  · refine ⟨by show 0 ≤ (0 : Int32).toInt; omega, by show (0 : Int32).toInt ≤ (n : Int); omega, hI, fun _ _ _ _ => rfl, hl, Or.inl ⟨rfl, rfl, fun i k hc => ?_⟩⟩
    have hc' : rk s (p i) < (0 : Int32).toInt.toNat := hc
    rw [k0] at hc'
    exact absurd hc' (Nat.not_lt_zero _)
