/-! the flock of the class: keep, restore, renew -/
theorem up2_e (f : Sg) (k j : Nat) (v : Int32) : up2 f k j v k j = v := by rw [up2_is, if_pos ⟨rfl, rfl⟩]
theorem up2_o {f : Sg} {k j : Nat} {v : Int32} {a b : Nat} (h : a ≠ k ∨ b ≠ j) : up2 f k j v a b = f a b := by rw [up2_is, if_neg (by omega)]
theorem cp2_is (f : Sg) (k1 k2 sp dp n a b : Nat) : cp2 f k1 k2 sp dp n a b = if a = k2 ∧ dp ≤ b ∧ b < dp + n then f k1 (sp + (b - dp)) else f a b := by
  unfold cp2 va_cpy
  by_cases h : a = k2
  · rw [if_pos h]
    by_cases h2 : dp ≤ b ∧ b < dp + n
    · rw [if_pos h2, if_pos ⟨h, h2⟩]
    · rw [if_neg h2, if_neg (fun z => h2 z.2)]
  · rw [if_neg h, if_neg (fun z => h z.1)]
theorem ok_gcp {α : Type} {P : α → Prop} {sp dp n : Int32} {n0 n1 : Nat} {x : Option α} (h1 : 0 ≤ sp.toInt) (h2 : 0 ≤ dp.toInt) (h3 : 0 ≤ n.toInt) (h4 : sp.toInt + n.toInt ≤ n0) (h5 : dp.toInt + n.toInt ≤ n1) (h : Ok P x) : Ok P (gcp sp dp n n0 n1 x) := by
  unfold gcp
  have k0 : (0 : Int32).toInt = 0 := by decide
  have g1 := cl_i h1
  have g2 := cl_i h2
  have g3 := cl_i h3
  rw [if_neg]
  · exact h
  · intro z
    rcases z with z | z
    · rcases z with z | z | z <;> · have := i_lt.mp z; omega
    · omega
def KS (sg r : Sg) : Prop := (∀ k, k ≠ 1 → k ≠ 2 → r k = sg k) ∧ (∀ j, j ≠ 1 → r 1 j = sg 1 j) ∧ (r 1 1).toInt = (sg 1 1).toInt + 1 ∧ (∀ j, j ≠ 0 → j ≠ 1 → r 2 j = sg 2 j) ∧ (r 2 1).toInt = ((sg 2 1).toInt + 1) % 8 ∧ (r 2 0).toInt = (if (sg 2 0).toInt = 8 then 8 else (sg 2 0).toInt + 1)
theorem k_step {sg : Sg} (h0 : 0 ≤ (sg 2 0).toInt) (h1 : (sg 2 0).toInt ≤ 8) (h2 : 0 ≤ (sg 2 1).toInt) (h3 : (sg 2 1).toInt ≤ 7) (h4 : (sg 1 1).toInt ≤ 2000) : Ok (KS sg) (fX1_step sg) := by
  unfold fX1_step
  have w := lo32 (sg 1 1)
  have k1 : (1 : Int32).toInt = 1 := by decide
  have k8 : (8 : Int32).toInt = 8 := by decide
  refine ok_lt (fun x1 ex1 => ?_)
  replace ex1 : x1.toInt = (sg 1 1).toInt + 1 := by rw [ex1]; exact add_c 1 (by decide) (by omega) (by omega)
  refine ok_lt (fun sg2 e2 => ?_)
  have a1 : (sg2 2 1) = (sg 2 1) := by rw [e2]; exact up2_o (by omega)
  have a0 : (sg2 2 0) = (sg 2 0) := by rw [e2]; exact up2_o (by omega)
  rw [a1]
  have f1 := add_c (a := sg 2 1) (b := (1 : Int32)) 1 k1 (by omega) (by omega)
  have f2 := div_i (a := (sg 2 1) + (1 : Int32)) (b := (8 : Int32)) 8 k8 (by decide) (by omega)
  have f3 := mul_r (a := ((sg 2 1) + (1 : Int32)) / (8 : Int32)) (b := (8 : Int32)) 8 k8 (by omega) (by omega)
  have f4 := sub_i (a := (sg 2 1) + (1 : Int32)) (b := ((sg 2 1) + (1 : Int32)) / (8 : Int32) * (8 : Int32)) (by omega) (by omega)
  refine ok_lt (fun x3 ex3 => ?_)
  replace ex3 : x3.toInt = ((sg 2 1).toInt + 1) % 8 := by rw [ex3]; omega
  refine ok_lt (fun sg4 e4 => ?_)
  have b0 : (sg4 2 0) = (sg 2 0) := by rw [e4, up2_o (by omega)]; exact a0
  rw [b0]
  have f5 := add_c (a := sg 2 0) (b := (1 : Int32)) 1 k1 (by omega) (by omega)
  have f6 := ite_lt (a := (8 : Int32)) (b := (sg 2 0) + (1 : Int32)) (x := (8 : Int32)) (y := (sg 2 0) + (1 : Int32))
  refine ok_lt (fun x5 ex5 => ?_)
  replace ex5 := congrArg Int32.toInt ex5
  refine ok_lt (fun sg6 e6 => ?_)
  refine ok_some ⟨fun k p q => ?_, fun j p => ?_, ?_, fun j p q => ?_, ?_, ?_⟩
  · rw [e6, up2_n q, e4, up2_n q, e2, up2_n p]
  · rw [e6, up2_o (by omega), e4, up2_o (by omega), e2, up2_o (by omega)]
  · rw [e6, up2_o (by omega), e4, up2_o (by omega), e2, up2_e]; exact ex1
  · rw [e6, up2_o (by omega), e4, up2_o (by omega), e2, up2_o (by omega)]
  · rw [e6, up2_o (by omega), e4, up2_e]; exact ex3
  · rw [e6, up2_e]
    by_cases c : (sg 2 0).toInt = 8
    · rw [if_pos c]; omega
    · rw [if_neg c]; omega
/-- what is kept of hen v ahead of a change, at place e -/
def KV (sg : Sg) (e : Nat) (v : Int32) (r : Sg) : Prop := (∀ k, k ≠ 47 + e → k ≠ 55 + e → r k = sg k) ∧ r (47 + e) 0 = sg (47 + e) 0 ∧ r (47 + e) 1 = v ∧ r (47 + e) 2 = sg 12 v.toNatClampNeg ∧ r (47 + e) 3 = sg 13 v.toNatClampNeg ∧ r (47 + e) 4 = sg 14 v.toNatClampNeg ∧ (∀ j, j < 12 → r (55 + e) j = sg 15 (12 * v.toNatClampNeg + j)) ∧ (∀ j, 5 ≤ j → r (47 + e) j = sg (47 + e) j) ∧ (∀ j, 12 ≤ j → r (55 + e) j = sg (55 + e) j)
theorem k_save {sg : Sg} {e : Nat} {v : Int32} (he : e < 8) (h0 : 0 ≤ v.toInt) (h1 : v.toInt ≤ 11) : Ok (KV sg e v) (fX0_save e v sg) := by
  unfold fX0_save
  have k0 : (0 : Int32).toInt = 0 := by decide
  have k12 : (12 : Int32).toInt = 12 := by decide
  have g := cl_i h0
  have f1 := mul_r (a := v) (b := (12 : Int32)) 12 (by decide) (by omega) (by omega)
  have g1 := cl_i (i := v * (12 : Int32)) (by omega)
  have g2 : (0 : Int32).toNatClampNeg = 0 := by decide
  have g3 : (12 : Int32).toNatClampNeg = 12 := by decide
  refine ok_lt (fun sg1 e1 => ?_)
  refine ok_gin (by omega) (by omega) ?_
  refine ok_lt (fun x3 ex3 => ?_)
  refine ok_lt (fun sg4 e4 => ?_)
  refine ok_gin (by omega) (by omega) ?_
  refine ok_lt (fun x6 ex6 => ?_)
  refine ok_lt (fun sg7 e7 => ?_)
  refine ok_gin (by omega) (by omega) ?_
  refine ok_lt (fun x9 ex9 => ?_)
  refine ok_lt (fun sg10 e10 => ?_)
  refine ok_gcp (by omega) (by omega) (by omega) (by omega) (by omega) ?_
  refine ok_lt (fun sg12 e12 => ?_)
  rw [e1, up2_o (by omega)] at ex3
  rw [e4, up2_o (by omega), e1, up2_o (by omega)] at ex6
  rw [e7, up2_o (by omega), e4, up2_o (by omega), e1, up2_o (by omega)] at ex9
  refine ok_some ⟨fun k p q => ?_, ?_, ?_, ?_, ?_, ?_, fun j p => ?_, fun j p => ?_, fun j p => ?_⟩
  · rw [e12, cp2_n q, e10, up2_n p, e7, up2_n p, e4, up2_n p, e1, up2_n p]
  · rw [e12, cp2_n (by omega), e10, up2_o (by omega), e7, up2_o (by omega), e4, up2_o (by omega), e1, up2_o (by omega)]
  · rw [e12, cp2_n (by omega), e10, up2_o (by omega), e7, up2_o (by omega), e4, up2_o (by omega), e1, up2_e]
  · rw [e12, cp2_n (by omega), e10, up2_o (by omega), e7, up2_o (by omega), e4, up2_e]; exact ex3
  · rw [e12, cp2_n (by omega), e10, up2_o (by omega), e7, up2_e]; exact ex6
  · rw [e12, cp2_n (by omega), e10, up2_e]; exact ex9
  · rw [e12, cp2_is, if_pos (by omega), e10, up2_o (by omega), e7, up2_o (by omega), e4, up2_o (by omega), e1, up2_o (by omega)]
    exact congrArg (sg 15) (by omega)
  · rw [e12, cp2_n (by omega), e10, up2_o (by omega), e7, up2_o (by omega), e4, up2_o (by omega), e1, up2_o (by omega)]
  · rw [e12, cp2_is, if_neg (by omega), e10, up2_o (by omega), e7, up2_o (by omega), e4, up2_o (by omega), e1, up2_o (by omega)]
/-- keepHen: what was kept, and the step -/
def KH (sx : Sg) (v : Int32) (r : Sg) : Prop := ∃ e : Nat, e = (sx 2 1).toInt.toNat ∧ (∀ k, k ≠ 1 → k ≠ 2 → k ≠ 47 + e → k ≠ 55 + e → r k = sx k) ∧ (∀ j, j ≠ 1 → r 1 j = sx 1 j) ∧ (r 1 1).toInt = (sx 1 1).toInt + 1 ∧ (∀ j, j ≠ 0 → j ≠ 1 → r 2 j = sx 2 j) ∧ (r 2 1).toInt = ((sx 2 1).toInt + 1) % 8 ∧ (r 2 0).toInt = (if (sx 2 0).toInt = 8 then 8 else (sx 2 0).toInt + 1) ∧ r (47 + e) 0 = 0 ∧ r (47 + e) 1 = v ∧ r (47 + e) 2 = sx 12 v.toNatClampNeg ∧ r (47 + e) 3 = sx 13 v.toNatClampNeg ∧ r (47 + e) 4 = sx 14 v.toNatClampNeg ∧ (∀ j, j < 12 → r (55 + e) j = sx 15 (12 * v.toNatClampNeg + j)) ∧ (∀ j, 5 ≤ j → r (47 + e) j = sx (47 + e) j) ∧ (∀ j, 12 ≤ j → r (55 + e) j = sx (55 + e) j)
theorem k_keepHen {sx : Sg} {v : Int32} (hI : IC0 sx) (hst : (sx 1 1).toInt ≤ 2000) (h0 : 0 ≤ v.toInt) (h1 : v.toInt ≤ 11) : Ok (KH sx v) (fX1_keepHen v sx) := by
  unfold fX1_keepHen
  have t0 := rdC2_0 hI
  have t1 := rdC2_1 hI
  refine ok_lt (fun x1 ex1 => ?_)
  have ex1' := congrArg Int32.toInt ex1
  have g := cl_i (i := x1) (by omega)
  refine ok_gin (by omega) (by omega) ?_
  refine ok_lt (fun sg3 e3 => ?_)
  refine ok_lt (fun x4 ex4 => ?_)
  rw [e3, up2_o (by omega), ← ex1] at ex4
  subst ex4
  refine ok_gin (by omega) (by omega) ?_
  refine ok_bnd1 (k_save (e := x4.toNatClampNeg) (by omega) h0 h1) (fun sg6 h6 => ?_)
  obtain ⟨s1, s2, s3, s4, s5, s6, s7, s8, s9⟩ := h6
  have c1 : sg6 1 = sx 1 := by rw [s1 1 (by omega) (by omega), e3, up2_n (by omega)]
  have c2 : sg6 2 = sx 2 := by rw [s1 2 (by omega) (by omega), e3, up2_n (by omega)]
  refine ok_bnd1 (k_step (sg := sg6) (by rw [c2]; omega) (by rw [c2]; omega) (by rw [c2]; omega) (by rw [c2]; omega) (by rw [c1]; omega)) (fun r hr => ?_)
  obtain ⟨r1, r2, r3, r4, r5, r6⟩ := hr
  refine ok_some ⟨x4.toNatClampNeg, by omega, fun k a b c d => ?_, fun j a => ?_, ?_, fun j a b => ?_, ?_, ?_, ?_, ?_, ?_, ?_, ?_, fun j a => ?_, fun j a => ?_, fun j a => ?_⟩
  · rw [r1 k a b, s1 k c d, e3, up2_n c]
  · rw [r2 j a, c1]
  · rw [r3, c1]
  · rw [r4 j a b, c2]
  · rw [r5, c2]
  · rw [r6, c2]
  · rw [r1 _ (by omega) (by omega), s2, e3, up2_e]
  · rw [r1 _ (by omega) (by omega), s3]
  · rw [r1 _ (by omega) (by omega), s4, e3, up2_o (by omega)]
  · rw [r1 _ (by omega) (by omega), s5, e3, up2_o (by omega)]
  · rw [r1 _ (by omega) (by omega), s6, e3, up2_o (by omega)]
  · rw [r1 _ (by omega) (by omega), s7 j a, e3, up2_o (by omega)]
  · rw [r1 _ (by omega) (by omega), s8 j a, e3, up2_o (by omega)]
  · rw [r1 _ (by omega) (by omega), s9 j a, e3, up2_o (by omega)]
def KN (sx r : Sg) : Prop := ∃ e : Nat, e = (sx 2 1).toInt.toNat ∧ (∀ k, k ≠ 1 → k ≠ 2 → k ≠ 47 + e → r k = sx k) ∧ (∀ j, j ≠ 1 → r 1 j = sx 1 j) ∧ (r 1 1).toInt = (sx 1 1).toInt + 1 ∧ (∀ j, j ≠ 0 → j ≠ 1 → r 2 j = sx 2 j) ∧ (r 2 1).toInt = ((sx 2 1).toInt + 1) % 8 ∧ (r 2 0).toInt = (if (sx 2 0).toInt = 8 then 8 else (sx 2 0).toInt + 1) ∧ r (47 + e) 0 = 1 ∧ (∀ j, j ≠ 0 → r (47 + e) j = sx (47 + e) j)
theorem k_keepNewHen {sx : Sg} (hI : IC0 sx) (hst : (sx 1 1).toInt ≤ 2000) : Ok (KN sx) (fX1_keepNewHen sx) := by
  unfold fX1_keepNewHen
  have t0 := rdC2_0 hI
  have t1 := rdC2_1 hI
  refine ok_lt (fun x1 ex1 => ?_)
  have ex1' := congrArg Int32.toInt ex1
  have g := cl_i (i := x1) (by omega)
  refine ok_gin (by omega) (by omega) ?_
  refine ok_lt (fun sg3 e3 => ?_)
  have c1 : sg3 1 = sx 1 := by rw [e3, up2_n (by omega)]
  have c2 : sg3 2 = sx 2 := by rw [e3, up2_n (by omega)]
  refine ok_bnd1 (k_step (sg := sg3) (by rw [c2]; omega) (by rw [c2]; omega) (by rw [c2]; omega) (by rw [c2]; omega) (by rw [c1]; omega)) (fun r hr => ?_)
  obtain ⟨r1, r2, r3, r4, r5, r6⟩ := hr
  refine ok_some ⟨x1.toNatClampNeg, by omega, fun k a b c => ?_, fun j a => ?_, ?_, fun j a b => ?_, ?_, ?_, ?_, fun j a => ?_⟩
  · rw [r1 k a b, e3, up2_n c]
  · rw [r2 j a, c1]
  · rw [r3, c1]
  · rw [r4 j a b, c2]
  · rw [r5, c2]
  · rw [r6, c2]
  · rw [r1 _ (by omega) (by omega), e3, up2_e]
  · rw [r1 _ (by omega) (by omega), e3, up2_o (by omega)]
theorem k_renewPen {v1 v2 : Int32} {sg : Sg} (h0 : 0 ≤ v1.toInt) (h1 : v1.toInt ≤ 11) : Ok (fun r => (∀ k, k ≠ 14 → k ≠ 15 → r k = sg k) ∧ (∀ i, r 14 i = if i = v1.toNatClampNeg then v2 else sg 14 i) ∧ ∀ i, r 15 i = if 12 * v1.toNatClampNeg ≤ i ∧ i < 12 * v1.toNatClampNeg + 12 then 0 else sg 15 i) (fX2_renewPen v1 v2 sg) := by
  unfold fX2_renewPen
  have hc := cl_i h0
  refine ok_gin (by omega) (by omega) ?_
  refine ok_lt (fun sg2 e2 => ?_)
  unfold LX2_renewPen_9
  refine ok_loop (I := fun (z : Int32 × Int32 × Sg) => z.1 = v1 ∧ 0 ≤ z.2.1.toInt ∧ z.2.1.toInt ≤ 12 ∧ (∀ k, k ≠ 15 → z.2.2 k = sg2 k) ∧ ∀ i, z.2.2 15 i = if 12 * v1.toNatClampNeg ≤ i ∧ i < 12 * v1.toNatClampNeg + z.2.1.toInt.toNat then 0 else sg 15 i) (m := fun (z : Int32 × Int32 × Sg) => (13 - z.2.1.toInt).toNat) _ ?_ ?_ _ ?_
  · intro z hz
    show (13 - z.2.1.toInt).toNat < 10000
    have := hz.2.1
    omega
  · intro rec z hz hrec
    obtain ⟨v, v3, s⟩ := z
    replace hz : v = v1 ∧ 0 ≤ v3.toInt ∧ v3.toInt ≤ 12 ∧ (∀ k, k ≠ 15 → s k = sg2 k) ∧ ∀ i, s 15 i = if 12 * v1.toNatClampNeg ≤ i ∧ i < 12 * v1.toNatClampNeg + v3.toInt.toNat then 0 else sg 15 i := hz
    obtain ⟨e1, q0, q1, q2, q3⟩ := hz
    subst e1
    show Ok _ (fX2_renewPen_9 rec v v3 s)
    unfold fX2_renewPen_9
    have k12 : (12 : Int32).toInt = 12 := by decide
    refine ok_ite (fun c => ?_) (fun c => ?_)
    · replace c := i_le.mp c
      refine ok_some ⟨fun k a b => ?_, fun i => ?_, fun i => ?_⟩
      · rw [q2 k b, e2, up2_n a]
      · rw [q2 14 (by decide), e2, up2_is]
        by_cases w : i = v.toNatClampNeg
        · rw [if_pos ⟨rfl, w⟩, if_pos w]
        · rw [if_neg (fun z => w z.2), if_neg w]
      · rw [q3 i, show v3.toInt.toNat = 12 by omega]
    · replace c := i_nle.mp c
      have iw := ix_c (v1 := v) (v2 := v3) h0 h1 q0 q1
      have g3 := cl_i q0
      refine ok_gin (by omega) (by omega) ?_
      refine ok_lt (fun sg3 e3 => ?_)
      refine ok_lt (fun x4 ex4 => ?_)
      replace ex4 : x4.toInt = v3.toInt + 1 := by rw [ex4]; exact add_c 1 (by decide) (by omega) (by omega)
      refine hrec (v, x4, sg3) ⟨rfl, by show 0 ≤ x4.toInt; omega, by show x4.toInt ≤ 12; omega, fun k a => ?_, fun i => ?_⟩ (show (13 - x4.toInt).toNat < (13 - v3.toInt).toNat by omega)
      · show sg3 k = sg2 k
        rw [e3, up2_n a, q2 k a]
      · show sg3 15 i = if 12 * v.toNatClampNeg ≤ i ∧ i < 12 * v.toNatClampNeg + x4.toInt.toNat then 0 else sg 15 i
        rw [e3, up2_is]
        by_cases q : i = ((v * (12 : Int32)) + v3).toNatClampNeg
        · rw [if_pos ⟨rfl, q⟩, if_pos (by omega)]
        · rw [if_neg (fun z => q z.2), q3 i]
          by_cases w : 12 * v.toNatClampNeg ≤ i ∧ i < 12 * v.toNatClampNeg + v3.toInt.toNat
          · rw [if_pos w, if_pos (by omega)]
          · rw [if_neg w, if_neg (by omega)]
  · have k0 : (0 : Int32).toInt = 0 := by decide
    refine ⟨rfl, by show 0 ≤ (0 : Int32).toInt; omega, by show (0 : Int32).toInt ≤ 12; omega, fun k a => rfl, fun i => ?_⟩
    show sg2 15 i = if 12 * v1.toNatClampNeg ≤ i ∧ i < 12 * v1.toNatClampNeg + (0 : Int32).toInt.toNat then 0 else sg 15 i
    rw [if_neg (by omega), e2, up2_n (by decide)]
theorem k_addHen {v1 v2 : Int32} {sg : Sg} (h0 : 0 ≤ (sg 1 0).toInt) (h1 : (sg 1 0).toInt ≤ 11) : Ok (fun r => (∀ k, k ≠ 1 → k ≠ 11 → k ≠ 12 → k ≠ 13 → k ≠ 14 → k ≠ 15 → r k = sg k) ∧ (r 1 0).toInt = (sg 1 0).toInt + 1 ∧ (∀ j, j ≠ 0 → r 1 j = sg 1 j) ∧ (∀ i, r 11 i = if i = (sg 1 0).toInt.toNat then v1 else sg 11 i) ∧ (∀ i, r 12 i = if i = (sg 1 0).toInt.toNat then v2 else sg 12 i) ∧ (∀ i, r 13 i = if i = (sg 1 0).toInt.toNat then 0 else sg 13 i) ∧ (∀ i, r 14 i = if i = (sg 1 0).toInt.toNat then -1 else sg 14 i) ∧ ∀ i, r 15 i = if 12 * (sg 1 0).toInt.toNat ≤ i ∧ i < 12 * (sg 1 0).toInt.toNat + 12 then 0 else sg 15 i) (fX2_addHen v1 v2 sg) := by
  unfold fX2_addHen
  have hc := cl_i h0
  have hh : (sg 1 0).toNatClampNeg = (sg 1 0).toInt.toNat := by omega
  refine ok_gin (by omega) (by omega) ?_
  refine ok_lt (fun sg2 e2 => ?_)
  have a2 : sg2 1 0 = sg 1 0 := by rw [e2]; exact up2_o (by omega)
  rw [a2]
  refine ok_gin (by omega) (by omega) ?_
  refine ok_lt (fun sg4 e4 => ?_)
  have a4 : sg4 1 0 = sg 1 0 := by rw [e4, up2_o (by omega)]; exact a2
  rw [a4]
  refine ok_gin (by omega) (by omega) ?_
  refine ok_lt (fun sg6 e6 => ?_)
  have a6 : sg6 1 0 = sg 1 0 := by rw [e6, up2_o (by omega)]; exact a4
  rw [a6]
  refine ok_bnd1 (k_renewPen (v1 := sg 1 0) (v2 := (-1 : Int32)) (sg := sg6) h0 h1) (fun sg7 h7 => ?_)
  obtain ⟨p1, p2, p3⟩ := h7
  have a7 : sg7 1 0 = sg 1 0 := by rw [p1 1 (by decide) (by decide)]; exact a6
  rw [a7]
  refine ok_lt (fun x9 ex9 => ?_)
  replace ex9 : x9.toInt = (sg 1 0).toInt + 1 := by rw [ex9]; exact add_c 1 (by decide) (by omega) (by omega)
  refine ok_lt (fun sg10 e10 => ?_)
  have up : ∀ (f : Sg) (k : Nat) (v : Int32) (i : Nat), up2 f k (sg 1 0).toNatClampNeg v k i = if i = (sg 1 0).toInt.toNat then v else f k i := by
    intro f k v i
    rw [up2_is]
    by_cases w : i = (sg 1 0).toInt.toNat
    · rw [if_pos ⟨rfl, by omega⟩, if_pos w]
    · rw [if_neg (by omega), if_neg w]
  refine ok_some ⟨fun k a b c d e f => ?_, ?_, fun j a => ?_, fun i => ?_, fun i => ?_, fun i => ?_, fun i => ?_, fun i => ?_⟩
  · rw [e10, up2_n a, p1 k e f, e6, up2_n d, e4, up2_n c, e2, up2_n b]
  · rw [e10, up2_e]; exact ex9
  · rw [e10, up2_o (by omega), p1 1 (by decide) (by decide), e6, up2_o (by omega), e4, up2_o (by omega), e2, up2_o (by omega)]
  · rw [e10, up2_n (by decide), p1 11 (by decide) (by decide), e6, up2_n (by decide), e4, up2_n (by decide), e2, up]
  · rw [e10, up2_n (by decide), p1 12 (by decide) (by decide), e6, up2_n (by decide), e4, up, e2, up2_n (by decide)]
  · rw [e10, up2_n (by decide), p1 13 (by decide) (by decide), e6, up, e4, up2_n (by decide), e2, up2_n (by decide)]
  · rw [e10, up2_n (by decide), p2 i, hh, e6, up2_n (by decide), e4, up2_n (by decide), e2, up2_n (by decide)]
  · rw [e10, up2_n (by decide), p3 i, hh, e6, up2_n (by decide), e4, up2_n (by decide), e2, up2_n (by decide)]
