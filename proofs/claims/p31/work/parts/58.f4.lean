theorem frel_push {sx sx2 sm sm2 : Sg} {e : Nat} (hS : SV (sm 1)) (h : FRel sx sm) (he : e = (sx 2 1).toInt.toNat) (he8 : (sx 2 1).toInt ≤ 7) (he0 : 0 ≤ (sx 2 1).toInt) (hk0 : 0 ≤ (sm 0 2).toInt) (hk8 : (sm 0 2).toInt ≤ 8) (hn : (sx2 2 1).toInt = ((sx 2 1).toInt + 1) % 8) (hkc : (sx2 2 0).toInt = (if (sx 2 0).toInt = 8 then 8 else (sx 2 0).toInt + 1)) (hkm : (sm2 0 2).toInt = (if (sm 0 2).toInt = 8 then 8 else (sm 0 2).toInt + 1))
    (ring : ∀ e', e' < 8 → e' ≠ e → sx2 (47 + e') = sx (47 + e') ∧ sx2 (55 + e') = sx (55 + e')) (hh : ∀ d j, j < 193 → d + 1 ≤ (sm2 0 2).toInt.toNat → hist sm2 (d + 1) j = hist sm d j) (feq : FEq sx2 (sm2 1)) (l0 : Link sx2 e (sm2 1) (sm 1)) (f12 : (sm2 1 0).toInt ≤ 12) : FRel sx2 sm2 := by
  have hq := h.2.1
  have k8 : (sm2 0 2).toInt ≤ 8 := by
    rw [hkm]; split <;> omega
  have kk : (sm2 0 2).toInt ≤ (sm 0 2).toInt + 1 := by
    rw [hkm]; split <;> omega
  refine ⟨feq, ?_, fun d hd => ?_⟩
  · rw [hkc, hkm, hq]
  · cases d with
    | zero =>
      have e0 : eix sx2 0 = e := by
        unfold eix
        omega
      rw [e0]
      exact ⟨Link_cg f12 l0 (fun _ _ => rfl) (fun _ _ => rfl) (fun _ _ => rfl) (fun j hj => hh 0 j hj (by omega)), SV_cg hS (fun j hj => hh 0 j hj (by omega))⟩
    | succ d =>
      have e1 : eix sx2 (d + 1) = eix sx d := by
        unfold eix
        omega
      have e2 : eix sx d < 8 := by
        unfold eix
        omega
      have e3 : eix sx d ≠ e := by
        unfold eix
        omega
      have hl := h.2.2 d (by omega)
      have hr := ring _ e2 e3
      rw [e1]
      exact ⟨Link_cg (hist_SV hS h d (by omega)).2.1 hl.1 (fun j _ => by rw [hr.1]) (fun j _ => by rw [hr.2]) (fun j hj => hh d j hj (by omega)) (fun j hj => hh (d + 1) j hj (by omega)), SV_cg hl.2 (fun j hj => hh (d + 1) j hj (by omega))⟩
/-- a place of hen p's row that may change -/
def inr (p j : Nat) : Prop := j = 13 + p ∨ j = 25 + p ∨ j = 37 + p ∨ (49 + 12 * p ≤ j ∧ j < 49 + 12 * p + 12)
theorem frel_change {sx sx1 sx2 sm sm2 : Sg} {lm lm1 : Lg} {sm1 : Sg} {v : Int32} (hI : IC0 sx) (hS : SV (sm 1)) (hk0 : 0 ≤ (sm 0 2).toInt) (hk8 : (sm 0 2).toInt ≤ 8) (h : FRel sx sm) (hv : 0 ≤ v.toInt) (hv2 : v.toInt < (sx 1 0).toInt) (kh : KH sx v sx1) (kp : KP sm lm (sm1, lm1))
    (c1 : sx2 1 = sx1 1) (c2 : sx2 2 = sx1 2) (c47 : ∀ k, 47 ≤ k → k ≤ 62 → sx2 k = sx1 k) (c11 : sx2 11 = sx1 11)
    (crow : ∀ x, x ≠ v.toNatClampNeg → sx2 12 x = sx1 12 x ∧ sx2 13 x = sx1 13 x ∧ sx2 14 x = sx1 14 x ∧ ∀ k, k < 12 → sx2 15 (12 * x + k) = sx1 15 (12 * x + k))
    (m0 : ∀ k, k ≠ 1 → sm2 k = sm1 k) (mrow : ∀ j, j < 193 → ¬ inr v.toNatClampNeg j → sm2 1 j = sm1 1 j) (hp : RowC sx2 (sm2 1) v.toNatClampNeg) : FRel sx2 sm2 := by
  obtain ⟨e, he, q1, q2, q3, q4, q5, q6, q7, q8, q9, q10, q11, q12, -, -⟩ := kh
  obtain ⟨-, p1, p2, p3, p4⟩ := kp
  replace p1 : ∀ k, k ≠ 0 → k ≠ 2 → sm1 k = sm k := p1
  replace p3 : (sm1 0 2).toInt = (if (sm 0 2).toInt = 8 then 8 else (sm 0 2).toInt + 1) := p3
  replace p4 : ∀ d j, j < 193 → d + 1 ≤ (sm1 0 2).toInt.toNat → hist sm1 (d + 1) j = hist sm d j := p4
  have t0 := rdC2_0 hI
  have t1 := rdC2_1 hI
  have t2 := rdC1_0 hI
  have hc := cl_i hv
  have he8 : e < 8 := by omega
  have s0 : sm2 1 0 = sm 1 0 := by
    rw [mrow 0 (by decide) (by unfold inr; omega), p1 1 (by decide) (by decide)]
  have z10 : sx2 1 0 = sx 1 0 := by rw [c1, q2 0 (by decide)]
  have rows : ∀ x : Nat, x < 12 → x ≠ v.toNatClampNeg → RowE (sm2 1) (sm 1) x := by
    intro x hx hn
    refine ⟨?_, ?_, ?_, ?_, fun k hk => ?_⟩ <;> rw [mrow _ (by omega) (by unfold inr; omega), p1 1 (by decide) (by decide)]
  have feq : FEq sx2 (sm2 1) := by
    refine ⟨by rw [s0, z10]; exact h.1.1, fun x hx => ?_⟩
    rw [z10] at hx
    by_cases w : x = v.toNatClampNeg
    · rw [w]; exact hp
    · have r := rows x (by omega) w
      have o := h.1.2 x hx
      have cr := crow x w
      refine ⟨?_, ?_, ?_, ?_, fun k hk => ?_⟩
      · rw [r.1, o.1, c11, q1 11 (by omega) (by omega) (by omega) (by omega)]
      · rw [r.2.1, o.2.1, cr.1, q1 12 (by omega) (by omega) (by omega) (by omega)]
      · rw [r.2.2.1, o.2.2.1, cr.2.1, q1 13 (by omega) (by omega) (by omega) (by omega)]
      · rw [r.2.2.2.1, o.2.2.2.1, cr.2.2.1, q1 14 (by omega) (by omega) (by omega) (by omega)]
      · rw [r.2.2.2.2 k hk, o.2.2.2.2 k hk, cr.2.2.2 k hk, q1 15 (by omega) (by omega) (by omega) (by omega)]
  have o := h.1.2 v.toNatClampNeg (by omega)
  refine frel_push (e := e) hS h he (by omega) (by omega) hk0 hk8 (by rw [c2]; exact q5) (by rw [c2]; exact q6) (by rw [m0 0 (by decide)]; exact p3) (fun e' a b => ⟨by rw [c47 _ (by omega) (by omega), q1 _ (by omega) (by omega) (by omega) (by omega)], by rw [c47 _ (by omega) (by omega), q1 _ (by omega) (by omega) (by omega) (by omega)]⟩) (fun d j hj hd => ?_) feq (Or.inr ⟨?_, ?_, ?_, fun x hx hn => ?_, ?_⟩) (by rw [s0]; exact hS.2.1)
  · rw [m0 0 (by decide)] at hd
    have := p4 d j hj hd
    rw [← this]
    show sm2 2 (193 * ((sm2 0 2).toInt.toNat - 1 - d) + j) = sm1 2 (193 * ((sm1 0 2).toInt.toNat - 1 - d) + j)
    rw [m0 0 (by decide), m0 2 (by decide)]
  · rw [c47 _ (by omega) (by omega)]; exact q7
  · exact s0.symm
  · rw [c47 _ (by omega) (by omega), q8, s0, h.1.1]
    omega
  · rw [c47 _ (by omega) (by omega), q8] at hn
    rw [s0, h.1.1] at hx
    exact rows x (by omega) hn
  · rw [c47 _ (by omega) (by omega), q8]
    refine ⟨?_, ?_, ?_, ?_, fun k hk => ?_⟩
    · rw [hp.1, o.1, c11, q1 11 (by omega) (by omega) (by omega) (by omega)]
    · rw [o.2.1, c47 _ (by omega) (by omega), q9]
    · rw [o.2.2.1, c47 _ (by omega) (by omega), q10]
    · rw [o.2.2.2.1, c47 _ (by omega) (by omega), q11]
    · rw [o.2.2.2.2 k hk, c47 _ (by omega) (by omega), q12 k hk]
theorem frel_new {sx sx1 sx2 sm sm2 : Sg} {lm lm1 : Lg} {sm1 : Sg} (hI : IC0 sx) (hS : SV (sm 1)) (hk0 : 0 ≤ (sm 0 2).toInt) (hk8 : (sm 0 2).toInt ≤ 8) (h : FRel sx sm) (hz : (sx 1 0).toInt ≤ 11) (kn : KN sx sx1) (kp : KP sm lm (sm1, lm1))
    (c1 : (sx2 1 0).toInt = (sx 1 0).toInt + 1) (c2 : sx2 2 = sx1 2) (c47 : ∀ k, 47 ≤ k → k ≤ 62 → sx2 k = sx1 k)
    (crow : ∀ x, x ≠ (sx 1 0).toInt.toNat → sx2 11 x = sx1 11 x ∧ sx2 12 x = sx1 12 x ∧ sx2 13 x = sx1 13 x ∧ sx2 14 x = sx1 14 x ∧ ∀ k, k < 12 → sx2 15 (12 * x + k) = sx1 15 (12 * x + k))
    (m0 : ∀ k, k ≠ 1 → sm2 k = sm1 k) (ms : (sm2 1 0).toInt = (sm 1 0).toInt + 1) (mrow : ∀ j, 0 < j → j < 193 → j ≠ 1 + (sx 1 0).toInt.toNat → ¬ inr (sx 1 0).toInt.toNat j → sm2 1 j = sm1 1 j) (hp : RowC sx2 (sm2 1) (sx 1 0).toInt.toNat) : FRel sx2 sm2 := by
  obtain ⟨e, he, q1, q2, q3, q4, q5, q6, q7, -⟩ := kn
  obtain ⟨-, p1, p2, p3, p4⟩ := kp
  replace p1 : ∀ k, k ≠ 0 → k ≠ 2 → sm1 k = sm k := p1
  replace p3 : (sm1 0 2).toInt = (if (sm 0 2).toInt = 8 then 8 else (sm 0 2).toInt + 1) := p3
  replace p4 : ∀ d j, j < 193 → d + 1 ≤ (sm1 0 2).toInt.toNat → hist sm1 (d + 1) j = hist sm d j := p4
  have t0 := rdC2_0 hI
  have t1 := rdC2_1 hI
  have t2 := rdC1_0 hI
  have he8 : e < 8 := by omega
  have hz2 : (sm 1 0).toInt = (sx 1 0).toInt := by rw [h.1.1]
  have rows : ∀ x : Nat, x < 12 → x ≠ (sx 1 0).toInt.toNat → RowE (sm2 1) (sm 1) x := by
    intro x hx hn
    refine ⟨?_, ?_, ?_, ?_, fun k hk => ?_⟩ <;> rw [mrow _ (by omega) (by omega) (by omega) (by unfold inr; omega), p1 1 (by decide) (by decide)]
  have feq : FEq sx2 (sm2 1) := by
    refine ⟨Int32.toInt_inj.mp (by omega), fun x hx => ?_⟩
    by_cases w : x = (sx 1 0).toInt.toNat
    · rw [w]; exact hp
    · have r := rows x (by omega) w
      have o := h.1.2 x (by omega)
      have cr := crow x w
      refine ⟨?_, ?_, ?_, ?_, fun k hk => ?_⟩
      · rw [r.1, o.1, cr.1, q1 11 (by omega) (by omega) (by omega)]
      · rw [r.2.1, o.2.1, cr.2.1, q1 12 (by omega) (by omega) (by omega)]
      · rw [r.2.2.1, o.2.2.1, cr.2.2.1, q1 13 (by omega) (by omega) (by omega)]
      · rw [r.2.2.2.1, o.2.2.2.1, cr.2.2.2.1, q1 14 (by omega) (by omega) (by omega)]
      · rw [r.2.2.2.2 k hk, o.2.2.2.2 k hk, cr.2.2.2.2 k hk, q1 15 (by omega) (by omega) (by omega)]
  refine frel_push (e := e) hS h he (by omega) (by omega) hk0 hk8 (by rw [c2]; exact q5) (by rw [c2]; exact q6) (by rw [m0 0 (by decide)]; exact p3) (fun e' a b => ⟨by rw [c47 _ (by omega) (by omega), q1 _ (by omega) (by omega) (by omega)], by rw [c47 _ (by omega) (by omega), q1 _ (by omega) (by omega) (by omega)]⟩) (fun d j hj hd => ?_) feq (Or.inl ⟨?_, ms, fun x hx => ?_⟩) (by omega)
  · rw [m0 0 (by decide)] at hd
    have := p4 d j hj hd
    rw [← this]
    show sm2 2 (193 * ((sm2 0 2).toInt.toNat - 1 - d) + j) = sm1 2 (193 * ((sm1 0 2).toInt.toNat - 1 - d) + j)
    rw [m0 0 (by decide), m0 2 (by decide)]
  · rw [c47 _ (by omega) (by omega), q7]; decide
  · exact rows x (by omega) (by omega)
theorem frel_undo {sx sx2 sm sm2 : Sg} (hI : IC0 sx) (hS : SV (sm 1)) (hk1 : 1 ≤ (sm 0 2).toInt) (hk8 : (sm 0 2).toInt ≤ 8) (h : FRel sx sm) (kt : KT sx sx2) (m2 : sm2 2 = sm 2) (mk : (sm2 0 2).toInt = (sm 0 2).toInt - 1) (ms : ∀ i, i < 193 → sm2 1 i = hist sm 1 i) : FRel sx2 sm2 := by
  obtain ⟨e, he, q1, q2, q3, q4, q5, q6, q7⟩ := kt
  have t0 := rdC2_0 hI
  have t1 := rdC2_1 hI
  have t2 := rdC1_0 hI
  have he8 : e < 8 := by omega
  have e0 : eix sx 0 = e := by
    unfold eix
    omega
  have hl := h.2.2 0 (by omega)
  have hq := h.2.1
  rw [e0] at hl
  have hG := hl.2
  have hg0 : sm2 1 0 = hist sm 1 0 := ms 0 (by decide)
  refine ⟨?_, by omega, fun d hd => ?_⟩
  · rcases hl.1 with ⟨a, b, c⟩ | ⟨a, b, c, d, f⟩
    · rcases q7 with ⟨-, r1, r12, r13, r14, r15⟩ | ⟨a', -⟩
      · have b' : (sm 1 0).toInt = (hist sm 1 0).toInt + 1 := b
        rw [h.1.1] at b'
        refine ⟨Int32.toInt_inj.mp (by rw [hg0]; omega), fun x hx => ?_⟩
        have o := h.1.2 x (by omega)
        have r := c x (by show (x : Int) < (hist sm 1 0).toInt; omega)
        have hG2 := hG.2.1
        refine ⟨?_, ?_, ?_, ?_, fun k hk => ?_⟩
        · rw [ms _ (by omega), ← r.1, q1 11 (by decide) (by decide) (by decide) (by decide) (by decide) (by decide)]; exact o.1
        · rw [ms _ (by omega), ← r.2.1, r12]; exact o.2.1
        · rw [ms _ (by omega), ← r.2.2.1, r13]; exact o.2.2.1
        · rw [ms _ (by omega), ← r.2.2.2.1, r14]; exact o.2.2.2.1
        · rw [ms _ (by omega), ← r.2.2.2.2 k hk, r15]; exact o.2.2.2.2 k hk
      · exact absurd a' a
    · rcases q7 with ⟨a', -⟩ | ⟨-, r1, r12, r13, r14, r15⟩
      · exact absurd a a'
      · have b' : hist sm 1 0 = sm 1 0 := b
        refine ⟨by rw [hg0, b', h.1.1, r1], fun x hx => ?_⟩
        rw [r1] at hx
        have o := h.1.2 x hx
        by_cases w : x = (sx (47 + e) 1).toNatClampNeg
        · have f1 : hist sm 1 (1 + (sx (47 + e) 1).toNatClampNeg) = sm 1 (1 + (sx (47 + e) 1).toNatClampNeg) := f.1
          rw [← w] at f f1 r12 r13 r14 r15
          refine ⟨?_, ?_, ?_, ?_, fun k hk => ?_⟩
          · rw [ms _ (by omega), f1, q1 11 (by decide) (by decide) (by decide) (by decide) (by decide) (by decide)]; exact o.1
          · rw [ms _ (by omega), f.2.1, r12, if_pos rfl]
          · rw [ms _ (by omega), f.2.2.1, r13, if_pos rfl]
          · rw [ms _ (by omega), f.2.2.2.1, r14, if_pos rfl]
          · rw [ms _ (by omega), f.2.2.2.2 k hk, r15, if_pos (by omega)]
            exact congrArg (sx (55 + e)) (by omega)
        · have r := d x (by show (x : Int) < (sm 1 0).toInt; rw [h.1.1]; exact hx) w
          refine ⟨?_, ?_, ?_, ?_, fun k hk => ?_⟩
          · rw [ms _ (by omega), ← r.1, q1 11 (by decide) (by decide) (by decide) (by decide) (by decide) (by decide)]; exact o.1
          · rw [ms _ (by omega), ← r.2.1, r12, if_neg w]; exact o.2.1
          · rw [ms _ (by omega), ← r.2.2.1, r13, if_neg w]; exact o.2.2.1
          · rw [ms _ (by omega), ← r.2.2.2.1, r14, if_neg w]; exact o.2.2.2.1
          · rw [ms _ (by omega), ← r.2.2.2.2 k hk, r15, if_neg (by omega)]; exact o.2.2.2.2 k hk
  · have e1 : eix sx2 d = eix sx (d + 1) := by
      unfold eix
      omega
    have e2 : eix sx (d + 1) < 8 := by
      unfold eix
      omega
    have hl2 := h.2.2 (d + 1) (by omega)
    rw [e1]
    have hh : ∀ j, j < 193 → hist sm2 d j = hist sm (d + 1) j := by
      intro j hj
      cases d with
      | zero => exact ms j hj
      | succ d =>
        show sm2 2 (193 * ((sm2 0 2).toInt.toNat - 1 - d) + j) = sm 2 (193 * ((sm 0 2).toInt.toNat - 1 - (d + 1)) + j)
        rw [m2]
        exact congrArg (sm 2) (by omega)
    have hh2 : ∀ j, j < 193 → hist sm2 (d + 1) j = hist sm (d + 2) j := by
      intro j hj
      show sm2 2 (193 * ((sm2 0 2).toInt.toNat - 1 - d) + j) = sm 2 (193 * ((sm 0 2).toInt.toNat - 1 - (d + 1)) + j)
      rw [m2]
      exact congrArg (sm 2) (by omega)
    refine ⟨Link_cg (hist_SV hS h (d + 1) (by omega)).2.1 hl2.1 (fun j _ => ?_) (fun j _ => ?_) hh hh2, SV_cg hl2.2 hh2⟩
    · rw [q1 _ (by omega) (by omega) (by omega) (by omega) (by omega) (by omega)]
    · rw [q1 _ (by omega) (by omega) (by omega) (by omega) (by omega) (by omega)]
