/-! the calls that change a hen -/
theorem kh_k {sx r : Sg} {v : Int32} (hI : IC0 sx) (kh : KH sx v r) {k : Nat} (h1 : k ≠ 1) (h2 : k ≠ 2) (h3 : ¬ (47 ≤ k ∧ k ≤ 62)) : r k = sx k := by
  obtain ⟨e, he, q1, -⟩ := kh
  have t1 := rdC2_1 hI
  exact q1 k h1 h2 (by omega) (by omega)
theorem may_ne {v0 v1 : Int32} (h0 : 0 ≤ v0.toInt) (h : mayA v0 v1) : ¬ v1 = v0 := by
  rcases h with z | z
  · intro y
    rw [← y, z] at h0
    exact absurd h0 (by decide)
  · exact z.2.2
theorem rel_change {K : Sg → Sg → Lg → Prop} (hK : KF K) {n : Nat} {sx sm s1 m1 sx2 sm2 : Sg} {lm l1 : Lg} {v : Int32} (h : Rel K n sx sm lm) (ask : sm2 1 (13 + v.toNatClampNeg) = sm 1 (13 + v.toNatClampNeg) ∨ ¬ sm2 1 (13 + v.toNatClampNeg) = v) (hv : 0 ≤ v.toInt) (hv2 : v.toInt < (sx 1 0).toInt) (kh : KH sx v s1) (kp : KP sm lm (m1, l1)) (same : ∀ k, ¬ (12 ≤ k ∧ k ≤ 15) → sx2 k = s1 k)
    (crow : ∀ x, x ≠ v.toNatClampNeg → sx2 12 x = s1 12 x ∧ sx2 13 x = s1 13 x ∧ sx2 14 x = s1 14 x ∧ ∀ k, k < 12 → sx2 15 (12 * x + k) = s1 15 (12 * x + k)) (fl : ∀ i, askP (sx2 12 i) ∧ (-1 ≤ (sx2 14 i).toInt ∧ (sx2 14 i).toInt ≤ 3) ∧ (0 ≤ (sx2 15 i).toInt ∧ (sx2 15 i).toInt ≤ 1000000))
    (m0 : ∀ k, k ≠ 1 → sm2 k = m1 k) (mrow : ∀ j, j < 193 → ¬ inr v.toNatClampNeg j → sm2 1 j = m1 1 j) (hp : RowC sx2 (sm2 1) v.toNatClampNeg) (sv2 : SV (sm2 1)) : Rel K (n + 1) sx2 sm2 l1 := by
  obtain ⟨hI, hM, hF, hst, hJ⟩ := h
  have t2 := rdC1_0 hI.1
  have t3 := rdM0_2 hM
  have t4 := rdC2_0 hI.1
  have kh' := kh
  have kp' := kp
  obtain ⟨e, he, q1, q2, q3, q4, q5, q6, -⟩ := kh'
  obtain ⟨p0, p1, p2, p3, -⟩ := kp'
  replace p0 : l1 = lm := p0
  replace p1 : ∀ k, k ≠ 0 → k ≠ 2 → m1 k = sm k := p1
  replace p2 : ∀ j, j ≠ 2 → m1 0 j = sm 0 j := p2
  replace p3 : (m1 0 2).toInt = (if (sm 0 2).toInt = 8 then 8 else (sm 0 2).toInt + 1) := p3
  have z1 := same 1 (by omega)
  have z2 := same 2 (by omega)
  have r1 : RingOK sx2 := ring_cg (ring_KH hI.1 hv (by omega) kh) (fun k a b => same k (by omega))
  have st : (sx2 1 1).toInt = (sx 1 1).toInt + 1 := by rw [z1]; exact q3
  have sameC : ∀ k, k ≠ 1 → k ≠ 2 → ¬ (11 ≤ k ∧ k ≤ 15) → ¬ (47 ≤ k ∧ k ≤ 62) → sx2 k = sx k := fun k a b c d => by rw [same k (by omega), kh_k hI.1 kh a b d]
  have sameM : ∀ k, k ≠ 0 → k ≠ 1 → k ≠ 2 → sm2 k = sm k := fun k a b c => by rw [m0 k b, p1 k a c]
  have sameM0 : ∀ j, j ≠ 2 → sm2 0 j = sm 0 j := fun j a => by rw [m0 0 (by decide), p2 j a]
  have nsn : NSH sm → NSH sm2 := by
    intro hn
    refine nsh_keep hM.2.2 hF t3.2 t3.1 kp (m0 0 (by decide)) (m0 2 (by decide)) hn (fun x hx => ?_)
    have m11 : m1 1 = sm 1 := p1 1 (by decide) (by decide)
    have s0 : sm2 1 0 = sm 1 0 := by rw [mrow 0 (by decide) (by unfold inr; omega), m11]
    rw [s0] at hx
    have old := hn 0 (by omega) x hx
    have hc := cl_i hv
    by_cases w : x = v.toNatClampNeg
    · subst w
      rcases ask with z | z
      · rw [z]; exact old
      · have e := of_i hv
        rw [show v.toInt.toNat = v.toNatClampNeg by omega] at e
        rw [← e]; exact z
    · have s12 := hM.2.2.2.1
      rw [mrow (13 + x) (by omega) (by unfold inr; omega), m11]; exact old
  refine ⟨?_, ?_, ?_, by rw [st]; omega, by rw [p0]; exact hK _ _ _ _ _ hI hJ st sameC sameM sameM0 nsn⟩
  · refine ic_gen hI (fun k a b c d => ?_) st ?_ ?_ ⟨?_, fun i => ⟨?_, (fl i).1, (fl i).2.1, (fl i).2.2⟩⟩ r1
    · rw [same k (by omega), kh_k hI.1 kh a b d]
    · rw [z2, q6]; split <;> omega
    · rw [z2, q5]; omega
    · rw [z1, q2 0 (by decide)]; exact t2
    · rw [same 11 (by omega), kh_k hI.1 kh (by decide) (by decide) (by decide)]; exact rdC11 hI.1
  · rw [p0]
    refine im_gen hM (fun k a b c => ?_) (fun j a => ?_) ?_ sv2
    · rw [m0 k b, p1 k a c]
    · rw [m0 0 (by decide), p2 j a]
    · rw [m0 0 (by decide), p3]; split <;> omega
  · exact frel_change hI.1 hM.2.2 t3.1 t3.2 hF hv hv2 kh kp z1 z2 (fun k a b => same k (by omega)) (same 11 (by omega)) crow m0 mrow hp
theorem sv_up {m : Sg} {j : Nat} {v : Int32} (h : SV (m 1)) (h0 : j ≠ 0) (h49 : j < 49) : SV (up2 m 1 j v 1) := by
  refine ⟨?_, ?_, fun x hx => ?_, fun i a b => ?_⟩
  · rw [up2_o (by omega)]; exact h.1
  · rw [up2_o (by omega)]; exact h.2.1
  · rw [up2_o (by omega)]; exact h.2.2.1 x hx
  · rw [up2_o (by omega)]; exact h.2.2.2 i a b
theorem kp_1 {sm m1 : Sg} {lm l1 : Lg} (kp : KP sm lm (m1, l1)) : m1 1 = sm 1 := kp.2.1 1 (by decide) (by decide)
theorem askP_cg {x y : Int32} (h : askP x) (e : y = x) : askP y := by rw [e]; exact h
theorem op_ask {K : Sg → Sg → Lg → Prop} (hK : KF K) {n : Nat} {sx sm : Sg} {lm : Lg} {a b : Int32} (hn : n ≤ 1000) (h : Rel K n sx sm lm) : OpL true (fX11_ask a b sx) (fX12_ask a b sm lm) (Rel K (n + 1)) := by
  have h' := h
  obtain ⟨hI, hM, hF, hst, hJ⟩ := h'
  have hsz : (sm 1 0) = sx 1 0 := hF.1.1
  have sv := hM.2.2
  have t2 := rdC1_0 hI.1
  have t3 := rdM0_2 hM
  have fl0 := ic_fl hI.1
  by_cases H : 0 ≤ a.toInt ∧ a.toInt < (sx 1 0).toInt
  · have Hm : 0 ≤ a.toInt ∧ a.toInt < (sm 1 0).toInt := by rw [hsz]; exact H
    have hc := cl_i H.1
    by_cases A : mayA a b
    · have i13 := ix_add (c := (13 : Int32)) (v := a) 13 (by decide) (by decide) H.1 (by omega)
      have row := hF.1.2 a.toNatClampNeg (by omega)
      refine opl_of (Px := fun r => ∃ s1, KH sx a s1 ∧ r = ((sx 12 a.toNatClampNeg).toInt64, up2 s1 12 a.toNatClampNeg b)) (Pm := fun r => ∃ s1 l1, KP sm lm (s1, l1) ∧ r = ((sm 1 (13 + a.toNatClampNeg)).toInt64, up2 s1 1 (13 + a.toNatClampNeg) b, l1)) ?_ ?_ ?_
      · unfold fX11_ask
        refine bnd2_of (has1 H.1 H.2) ?_
        rw [ite1]
        refine bnd2_of (may1 A) ?_
        rw [ite1]
        refine ok_bnd1 (k_keepHen hI.1 (by omega) H.1 (by omega)) (fun s1 k1 => ?_)
        refine ok_gin (by omega) (by omega) ?_
        refine ok_lt (fun x ex => ?_)
        refine ok_gin (by omega) (by omega) ?_
        refine ok_lt (fun s2 e2 => ?_)
        refine ok_some ⟨s1, k1, ?_⟩
        rw [ex, e2, kh_k hI.1 k1 (by decide) (by decide) (by decide)]
      · unfold fX12_ask
        refine bnd3_of (isHen1 sv Hm.1 Hm.2) ?_
        rw [ite1]
        refine bnd3_of (mayM1 A) ?_
        rw [ite1]
        refine ok_bnd2 (k_keep t3.1 t3.2) (fun s1 l1 k1 => ?_)
        refine bnd3_of (asks_n H.1 (by omega)) ?_
        refine ok_gin (by omega) (by omega) ?_
        refine ok_lt (fun s2 e2 => ?_)
        refine ok_some ⟨s1, l1, k1, ?_⟩
        rw [e2, i13.1, kp_1 k1]
      · rintro r sx2 r' sm2 lm2 ⟨s1, k1, e1⟩ ⟨m1, l1, p1, e2⟩
        cases e1
        cases e2
        have c : ∀ k, ¬ (12 ≤ k ∧ k ≤ 15) → up2 s1 12 a.toNatClampNeg b k = s1 k := fun k hk => up2_n (by omega)
        have q : ∀ k, 11 ≤ k → k ≤ 15 → s1 k = sx k := fun k p q => kh_k hI.1 k1 (by omega) (by omega) (by omega)
        refine ⟨by rw [row.2.1], rel_change hK h (Or.inr (by rw [up2_e]; exact may_ne H.1 A)) H.1 H.2 k1 p1 c (fun x hx => ⟨up2_o (by omega), by rw [up2_n (by decide)], by rw [up2_n (by decide)], fun k _ => by rw [up2_n (by decide)]⟩) (fun i => ⟨?_, ?_, ?_⟩) (fun k hk => up2_n hk) (fun j hj hn => up2_o (by unfold inr at hn; omega)) ⟨?_, ?_, ?_, ?_, fun k hk => ?_⟩ (sv_up (by rw [kp_1 p1]; exact sv) (by omega) (by omega))⟩
        · rw [up2_is]
          by_cases w : 12 = 12 ∧ i = a.toNatClampNeg
          · rw [if_pos w]; exact may_ask A
          · rw [if_neg w, q 12 (by decide) (by decide)]; exact (fl0.2 i).2.1
        · rw [up2_n (by decide), q 14 (by decide) (by decide)]; exact (fl0.2 i).2.2.1
        · rw [up2_n (by decide), q 15 (by decide) (by decide)]; exact (fl0.2 i).2.2.2
        · rw [up2_o (by omega), up2_n (by decide), q 11 (by decide) (by decide), kp_1 p1]; exact row.1
        · rw [up2_e, up2_e]
        · rw [up2_o (by omega), up2_n (by decide), q 13 (by decide) (by decide), kp_1 p1]; exact row.2.2.1
        · rw [up2_o (by omega), up2_n (by decide), q 14 (by decide) (by decide), kp_1 p1]; exact row.2.2.2.1
        · rw [up2_o (by omega), up2_n (by decide), q 15 (by decide) (by decide), kp_1 p1]; exact row.2.2.2.2 k hk
    · refine ⟨-2000000001, -2000000001, sx, sm, lm, ?_, ?_, fun _ => rfl, rel_up h⟩
      · unfold fX11_ask
        rw [has1 H.1 H.2, bnd2_s, ite1, may0 A, bnd2_s, ite0]
      · unfold fX12_ask
        rw [isHen1 sv Hm.1 Hm.2, bnd3_s, ite1, mayM0 A, bnd3_s, ite0]
  · refine ⟨-2000000001, -2000000001, sx, sm, lm, ?_, ?_, fun _ => rfl, rel_up h⟩
    · unfold fX11_ask
      rw [has0 H, bnd2_s, ite0]
    · unfold fX12_ask
      rw [isHen0 sv (by rw [hsz]; exact H), bnd3_s, ite0]
theorem op_take {K : Sg → Sg → Lg → Prop} (hK : KF K) {n : Nat} {sx sm : Sg} {lm : Lg} {a b : Int32} (hn : n ≤ 1000) (h : Rel K n sx sm lm) : OpL true (fX11_take a b sx) (fX12_take a b sm lm) (Rel K (n + 1)) := by
  have h' := h
  obtain ⟨hI, hM, hF, hst, hJ⟩ := h'
  have hsz : (sm 1 0) = sx 1 0 := hF.1.1
  have sv := hM.2.2
  have t2 := rdC1_0 hI.1
  have t3 := rdM0_2 hM
  have fl0 := ic_fl hI.1
  have k0 : (0 : Int32).toInt = 0 := by decide
  have k1 : (1 : Int32).toInt = 1 := by decide
  have j0 : (0 : Int64).toInt = 0 := by decide
  have j1 : (1 : Int64).toInt = 1 := by decide
  by_cases H : 0 ≤ a.toInt ∧ a.toInt < (sx 1 0).toInt
  · have Hm : 0 ≤ a.toInt ∧ a.toInt < (sm 1 0).toInt := by rw [hsz]; exact H
    have hc := cl_i H.1
    have row := hF.1.2 a.toNatClampNeg (by omega)
    by_cases A : 0 ≤ b.toInt ∧ b.toInt ≤ 1
    · by_cases G : sx 11 a.toNatClampNeg = 4
      · have i25 := ix_add (c := (25 : Int32)) (v := a) 25 (by decide) (by decide) H.1 (by omega)
        refine opl_of (Px := fun r => ∃ s1, KH sx a s1 ∧ r = ((sx 13 a.toNatClampNeg).toInt64, up2 s1 13 a.toNatClampNeg b)) (Pm := fun r => ∃ s1 l1, KP sm lm (s1, l1) ∧ r = ((sm 1 (25 + a.toNatClampNeg)).toInt64, up2 s1 1 (25 + a.toNatClampNeg) b, l1)) ?_ ?_ ?_
        · unfold fX11_take
          refine bnd2_of (has1 H.1 H.2) ?_
          rw [ite1, if_neg (by rw [i_lt]; omega), if_pos (by rw [i_le]; omega)]
          refine ok_gin (by omega) (by omega) ?_
          rw [if_pos G]
          refine ok_bnd1 (k_keepHen hI.1 (by omega) H.1 (by omega)) (fun s1 k1 => ?_)
          refine ok_gin (by omega) (by omega) ?_
          refine ok_lt (fun x ex => ?_)
          refine ok_gin (by omega) (by omega) ?_
          refine ok_lt (fun s2 e2 => ?_)
          refine ok_some ⟨s1, k1, ?_⟩
          rw [ex, e2, kh_k hI.1 k1 (by decide) (by decide) (by decide)]
        · unfold fX12_take
          refine bnd3_of (isHen1 sv Hm.1 Hm.2) ?_
          rw [ite1]
          refine bnd3_of (isIn1 (by rw [Int32.toInt_toInt64]; omega) (by rw [Int32.toInt_toInt64]; omega)) ?_
          rw [ite1]
          refine bnd3_of (kind_is H.1 (by omega)) ?_
          rw [if_pos (by rw [row.1]; exact G)]
          refine ok_bnd2 (k_keep t3.1 t3.2) (fun s1 l1 k1 => ?_)
          refine ok_lt (fun x19 e19 => ?_)
          rw [e19]
          refine ok_gin (by omega) (by omega) ?_
          refine ok_lt (fun x21 e21 => ?_)
          refine ok_gin (by omega) (by omega) ?_
          refine ok_lt (fun s2 e2 => ?_)
          refine ok_some ⟨s1, l1, k1, ?_⟩
          rw [e2, e21, i25.1, kp_1 k1]
        · rintro r sx2 r' sm2 lm2 ⟨s1, k1, e1⟩ ⟨m1, l1, p1, e2⟩
          cases e1
          cases e2
          have c : ∀ k, ¬ (12 ≤ k ∧ k ≤ 15) → up2 s1 13 a.toNatClampNeg b k = s1 k := fun k hk => up2_n (by omega)
          have q : ∀ k, 11 ≤ k → k ≤ 15 → s1 k = sx k := fun k p q => kh_k hI.1 k1 (by omega) (by omega) (by omega)
          refine ⟨by rw [row.2.2.1], rel_change hK h (Or.inl (by rw [up2_o (by omega), kp_1 p1])) H.1 H.2 k1 p1 c (fun x hx => ⟨by rw [up2_n (by decide)], up2_o (by omega), by rw [up2_n (by decide)], fun k _ => by rw [up2_n (by decide)]⟩) (fun i => ⟨?_, ?_, ?_⟩) (fun k hk => up2_n hk) (fun j hj hn => up2_o (by unfold inr at hn; omega)) ⟨?_, ?_, ?_, ?_, fun k hk => ?_⟩ (sv_up (by rw [kp_1 p1]; exact sv) (by omega) (by omega))⟩
          · rw [up2_n (by decide), q 12 (by decide) (by decide)]; exact (fl0.2 i).2.1
          · rw [up2_n (by decide), q 14 (by decide) (by decide)]; exact (fl0.2 i).2.2.1
          · rw [up2_n (by decide), q 15 (by decide) (by decide)]; exact (fl0.2 i).2.2.2
          · rw [up2_o (by omega), up2_n (by decide), q 11 (by decide) (by decide), kp_1 p1]; exact row.1
          · rw [up2_o (by omega), up2_n (by decide), q 12 (by decide) (by decide), kp_1 p1]; exact row.2.1
          · rw [up2_e, up2_e]
          · rw [up2_o (by omega), up2_n (by decide), q 14 (by decide) (by decide), kp_1 p1]; exact row.2.2.2.1
          · rw [up2_o (by omega), up2_n (by decide), q 15 (by decide) (by decide), kp_1 p1]; exact row.2.2.2.2 k hk
      · refine ⟨-2000000002, -2000000002, sx, sm, lm, ?_, ?_, fun _ => rfl, rel_up h⟩
        · unfold fX11_take
          rw [has1 H.1 H.2, bnd2_s, ite1, if_neg (by rw [i_lt]; omega), if_pos (by rw [i_le]; omega), gin_in (vin_i (by omega) (by omega)), if_neg G]
        · unfold fX12_take
          rw [isHen1 sv Hm.1 Hm.2, bnd3_s, ite1, isIn1 (by rw [Int32.toInt_toInt64]; omega) (by rw [Int32.toInt_toInt64]; omega), bnd3_s, ite1, kind_is H.1 (by omega), bnd3_s, if_neg (by rw [row.1]; exact G)]
    · refine ⟨-2000000001, -2000000001, sx, sm, lm, ?_, ?_, fun _ => rfl, rel_up h⟩
      · unfold fX11_take
        rw [has1 H.1 H.2, bnd2_s, ite1]
        by_cases c : b < 0
        · rw [if_pos c]
        · rw [if_neg c, if_neg (by rw [i_le]; rw [i_lt] at c; omega)]
      · unfold fX12_take
        rw [isHen1 sv Hm.1 Hm.2, bnd3_s, ite1, isIn0 (by rw [Int32.toInt_toInt64]; omega), bnd3_s, ite0]
  · refine ⟨-2000000001, -2000000001, sx, sm, lm, ?_, ?_, fun _ => rfl, rel_up h⟩
    · unfold fX11_take
      rw [has0 H, bnd2_s, ite0]
    · unfold fX12_take
      rw [isHen0 sv (by rw [hsz]; exact H), bnd3_s, ite0]
