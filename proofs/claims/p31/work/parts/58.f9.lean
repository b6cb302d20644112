theorem kn_k {sx r : Sg} (hI : IC0 sx) (kn : KN sx r) {k : Nat} (h1 : k ≠ 1) (h2 : k ≠ 2) (h3 : ¬ (47 ≤ k ∧ k ≤ 54)) : r k = sx k := by
  obtain ⟨e, he, q1, -⟩ := kn
  have t1 := rdC2_1 hI
  exact q1 k h1 h2 (by omega)
theorem op_hen {K : Sg → Sg → Lg → Prop} (hK : KF K) {n : Nat} {sx sm : Sg} {lm : Lg} {a b : Int32} (hn : n ≤ 1000) (h : Rel K n sx sm lm) : OpL true (fX11_hen a b sx) (fX12_hen a b sm lm) (Rel K (n + 1)) := by
  have h' := h
  obtain ⟨hI, hM, hF, hst, hJ⟩ := h'
  have hsz : (sm 1 0) = sx 1 0 := hF.1.1
  have sv := hM.2.2
  have t2 := rdC1_0 hI.1
  have t3 := rdM0_2 hM
  have t4 := rdC2_0 hI.1
  have fl0 := ic_fl hI.1
  have k0 : (0 : Int32).toInt = 0 := by decide
  have k1 : (1 : Int32).toInt = 1 := by decide
  have km : (-1 : Int32).toInt = -1 := by decide
  have k12 : (12 : Int32).toInt = 12 := by decide
  have j0 : (0 : Int64).toInt = 0 := by decide
  have j4 : (4 : Int64).toInt = 4 := by decide
  have z0 : (0 : Int32).toNatClampNeg = 0 := by decide
  by_cases K : 0 ≤ a.toInt ∧ a.toInt ≤ 4
  · by_cases A : mayA (sx 1 0) b
    · have A' : mayA (sm 1 0) b := by rw [hsz]; exact A
      by_cases F : (sx 1 0).toInt ≤ 11
      · have hs11 : (sm 1 0).toInt ≤ 11 := by rw [hsz]; exact F
        have hs0 : 0 ≤ (sm 1 0).toInt := sv.1
        have hc := cl_i (i := sx 1 0) t2.1
        have hcm : (sm 1 0).toNatClampNeg = (sx 1 0).toInt.toNat := by rw [hsz]; omega
        have i1 := ix_add (c := (1 : Int32)) (v := sm 1 0) 1 (by decide) (by decide) hs0 (by omega)
        have i13 := ix_add (c := (13 : Int32)) (v := sm 1 0) 13 (by decide) (by decide) hs0 (by omega)
        have i25 := ix_add (c := (25 : Int32)) (v := sm 1 0) 25 (by decide) (by decide) hs0 (by omega)
        refine opl_of (Px := fun r => r.1 = (sx 1 0).toInt64 ∧ ∃ s1, KN sx s1 ∧ (∀ k, k ≠ 1 → k ≠ 11 → k ≠ 12 → k ≠ 13 → k ≠ 14 → k ≠ 15 → r.2 k = s1 k) ∧ (r.2 1 0).toInt = (s1 1 0).toInt + 1 ∧ (∀ j, j ≠ 0 → r.2 1 j = s1 1 j) ∧ (∀ i, r.2 11 i = if i = (s1 1 0).toInt.toNat then a else s1 11 i) ∧ (∀ i, r.2 12 i = if i = (s1 1 0).toInt.toNat then b else s1 12 i) ∧ (∀ i, r.2 13 i = if i = (s1 1 0).toInt.toNat then 0 else s1 13 i) ∧ (∀ i, r.2 14 i = if i = (s1 1 0).toInt.toNat then -1 else s1 14 i) ∧ ∀ i, r.2 15 i = if 12 * (s1 1 0).toInt.toNat ≤ i ∧ i < 12 * (s1 1 0).toInt.toNat + 12 then 0 else s1 15 i)
          (Pm := fun r => r.1 = (sm 1 0).toInt64 ∧ ∃ m1, KP sm lm (m1, r.2.2) ∧ (∀ k, k ≠ 1 → r.2.1 k = m1 k) ∧ (r.2.1 1 0).toInt = (sm 1 0).toInt + 1 ∧ ∀ i, i ≠ 0 → r.2.1 1 i = if 49 + 12 * (sx 1 0).toInt.toNat ≤ i ∧ i < 49 + 12 * (sx 1 0).toInt.toNat + 12 then 0 else if i = 37 + (sx 1 0).toInt.toNat then -1 else if i = 25 + (sx 1 0).toInt.toNat then 0 else if i = 13 + (sx 1 0).toInt.toNat then b else if i = 1 + (sx 1 0).toInt.toNat then a else sm 1 i) ?_ ?_ ?_
        · unfold fX11_hen
          refine bnd2_of (isKind1 K.1 K.2) ?_
          rw [ite1]
          refine bnd2_of (may1 A) ?_
          rw [ite1, if_pos (by rw [i_lt]; omega)]
          refine ok_bnd1 (k_keepNewHen hI.1 (by omega)) (fun s1 kn => ?_)
          have s10 : s1 1 0 = sx 1 0 := by
            obtain ⟨e, -, -, q2, -⟩ := kn
            exact q2 0 (by decide)
          refine ok_bnd1 (k_addHen (v1 := a) (v2 := b) (sg := s1) (by rw [s10]; omega) (by rw [s10]; omega)) (fun s2 k2 => ?_)
          refine ok_some ⟨?_, s1, kn, k2⟩
          have f := sub_c (a := s2 1 0) (b := (1 : Int32)) 1 k1 (by have := k2.2.1; rw [s10] at this; omega) (by have := k2.2.1; rw [s10] at this; omega)
          refine Int64.toInt_inj.mp ?_
          show ((s2 1 0) - (1 : Int32)).toInt64.toInt = _
          rw [Int32.toInt_toInt64, Int32.toInt_toInt64, f, k2.2.1, s10]
          omega
        · unfold fX12_hen
          refine bnd3_of hens_is ?_
          refine bnd3_of (isIn1 (by rw [Int32.toInt_toInt64]; omega) (by rw [Int32.toInt_toInt64]; omega)) ?_
          rw [ite1]
          refine bnd3_of (mayM1 A') ?_
          rw [ite1, if_neg (by rw [i_eq]; omega)]
          refine ok_bnd2 (k_keep t3.1 t3.2) (fun m1 l1 kp => ?_)
          rw [z0, kp_1 kp]
          refine ok_gin (by omega) (by omega) ?_
          refine ok_lt (fun x20 e20 => ?_)
          replace e20 : x20.toInt = (sm 1 0).toInt + 1 := by rw [e20]; exact add_c 1 k1 (by omega) (by omega)
          refine ok_gin (by omega) (by omega) ?_
          refine ok_lt (fun s22 e22 => ?_)
          refine ok_gin (by omega) (by omega) ?_
          refine ok_lt (fun s24 e24 => ?_)
          refine ok_gin (by omega) (by omega) ?_
          refine ok_lt (fun s26 e26 => ?_)
          refine ok_gin (by omega) (by omega) ?_
          refine ok_lt (fun s28 e28 => ?_)
          refine ok_bnd2 (k_empty (v1 := sm 1 0) (v2 := (-1 : Int32)) (sm := s28) (lm := l1) hs0 (by omega)) (fun s29 l30 k29 => ?_)
          obtain ⟨q1, q2, q3⟩ := k29
          replace q1 : l30 = l1 := q1
          replace q2 : ∀ k, k ≠ 1 → s29 k = s28 k := q2
          replace q3 : ∀ i, s29 1 i = if 49 + 12 * (sm 1 0).toNatClampNeg ≤ i ∧ i < 49 + 12 * (sm 1 0).toNatClampNeg + 12 then 0 else if i = 37 + (sm 1 0).toNatClampNeg then -1 else s28 1 i := q3
          subst q1
          rw [hcm] at q3
          rw [i1.1, hcm] at e24
          rw [i13.1, hcm] at e26
          rw [i25.1, hcm] at e28
          refine ok_some ⟨rfl, m1, kp, fun k hk => ?_, ?_, fun i hi => ?_⟩
          · show s29 k = m1 k
            rw [q2 k hk, e28, up2_n hk, e26, up2_n hk, e24, up2_n hk, e22, up2_n hk]
          · show (s29 1 0).toInt = _
            rw [q3, if_neg (by omega), if_neg (by omega), e28, up2_o (by omega), e26, up2_o (by omega), e24, up2_o (by omega), e22, up2_e]
            exact e20
          · show s29 1 i = _
            rw [q3]
            by_cases c1 : 49 + 12 * (sx 1 0).toInt.toNat ≤ i ∧ i < 49 + 12 * (sx 1 0).toInt.toNat + 12
            · rw [if_pos c1, if_pos c1]
            · rw [if_neg c1, if_neg c1]
              by_cases c2 : i = 37 + (sx 1 0).toInt.toNat
              · rw [if_pos c2, if_pos c2]
              · rw [if_neg c2, if_neg c2]
                by_cases c3 : i = 25 + (sx 1 0).toInt.toNat
                · rw [if_pos c3, c3, e28, up2_e]
                · rw [if_neg c3, e28, up2_o (by omega)]
                  by_cases c4 : i = 13 + (sx 1 0).toInt.toNat
                  · rw [if_pos c4, c4, e26, up2_e]
                  · rw [if_neg c4, e26, up2_o (by omega)]
                    by_cases c5 : i = 1 + (sx 1 0).toInt.toNat
                    · rw [if_pos c5, c5, e24, up2_e]
                    · rw [if_neg c5, e24, up2_o (by omega), e22, up2_o (by omega), kp_1 kp]
        · rintro r sx2 r' sm2 lm2 ⟨e1, s1, kn, c0, c1, c1j, c11, c12, c13, c14, c15⟩ ⟨e2, m1, kp, m0, ms, mi⟩
          replace e1 : r = (sx 1 0).toInt64 := e1
          replace e2 : r' = (sm 1 0).toInt64 := e2
          replace c0 : ∀ k, k ≠ 1 → k ≠ 11 → k ≠ 12 → k ≠ 13 → k ≠ 14 → k ≠ 15 → sx2 k = s1 k := c0
          replace c1 : (sx2 1 0).toInt = (s1 1 0).toInt + 1 := c1
          replace c1j : ∀ j, j ≠ 0 → sx2 1 j = s1 1 j := c1j
          replace c11 : ∀ i, sx2 11 i = if i = (s1 1 0).toInt.toNat then a else s1 11 i := c11
          replace c12 : ∀ i, sx2 12 i = if i = (s1 1 0).toInt.toNat then b else s1 12 i := c12
          replace c13 : ∀ i, sx2 13 i = if i = (s1 1 0).toInt.toNat then 0 else s1 13 i := c13
          replace c14 : ∀ i, sx2 14 i = if i = (s1 1 0).toInt.toNat then -1 else s1 14 i := c14
          replace c15 : ∀ i, sx2 15 i = if 12 * (s1 1 0).toInt.toNat ≤ i ∧ i < 12 * (s1 1 0).toInt.toNat + 12 then 0 else s1 15 i := c15
          replace kp : KP sm lm (m1, lm2) := kp
          replace m0 : ∀ k, k ≠ 1 → sm2 k = m1 k := m0
          replace ms : (sm2 1 0).toInt = (sm 1 0).toInt + 1 := ms
          replace mi : ∀ i, i ≠ 0 → sm2 1 i = if 49 + 12 * (sx 1 0).toInt.toNat ≤ i ∧ i < 49 + 12 * (sx 1 0).toInt.toNat + 12 then 0 else if i = 37 + (sx 1 0).toInt.toNat then -1 else if i = 25 + (sx 1 0).toInt.toNat then 0 else if i = 13 + (sx 1 0).toInt.toNat then b else if i = 1 + (sx 1 0).toInt.toNat then a else sm 1 i := mi
          have q : ∀ k, 11 ≤ k → k ≤ 15 → s1 k = sx k := fun k p q => kn_k hI.1 kn (by omega) (by omega) (by omega)
          have kn' := kn
          obtain ⟨e, he, q1, q2, q3, q4, q5, q6, q7, q8⟩ := kn'
          have s10 : s1 1 0 = sx 1 0 := q2 0 (by decide)
          rw [s10] at c1 c11 c12 c13 c14 c15
          obtain ⟨p0, p1, p2, p3, -⟩ := (show KP sm lm (m1, lm2) from kp)
          replace p0 : lm2 = lm := p0
          replace p1 : ∀ k, k ≠ 0 → k ≠ 2 → m1 k = sm k := p1
          replace p2 : ∀ j, j ≠ 2 → m1 0 j = sm 0 j := p2
          replace p3 : (m1 0 2).toInt = (if (sm 0 2).toInt = 8 then 8 else (sm 0 2).toInt + 1) := p3
          have t5 := rdC2_1 hI.1
          have z2 := c0 2 (by decide) (by decide) (by decide) (by decide) (by decide) (by decide)
          have st : (sx2 1 1).toInt = (sx 1 1).toInt + 1 := by rw [c1j 1 (by decide)]; exact q3
          have m11 := kp_1 kp
          have sv2 : SV (sm2 1) := by
            refine ⟨by omega, by omega, fun x hx => ?_, fun i p r => ?_⟩
            · rw [mi _ (by omega)]
              by_cases w : 49 + 12 * (sx 1 0).toInt.toNat ≤ 49 + 13 * x ∧ 49 + 13 * x < 49 + 12 * (sx 1 0).toInt.toNat + 12
              · rw [if_pos w]
              · rw [if_neg w, if_neg (by omega), if_neg (by omega), if_neg (by omega), if_neg (by omega)]; exact sv.2.2.1 x hx
            · rw [mi _ (by omega)]
              by_cases w : 49 + 12 * (sx 1 0).toInt.toNat ≤ i ∧ i < 49 + 12 * (sx 1 0).toInt.toNat + 12
              · rw [if_pos w, k0]; decide
              · rw [if_neg w, if_neg (by omega), if_neg (by omega), if_neg (by omega), if_neg (by omega)]; exact sv.2.2.2 i p r
          have nsn : NSH sm → NSH sm2 := by
            intro hn
            refine nsh_keep sv hF t3.2 t3.1 kp (m0 0 (by decide)) (m0 2 (by decide)) hn (fun x hx => ?_)
            by_cases w : x = (sx 1 0).toInt.toNat
            · subst w
              rw [mi _ (by omega), if_neg (by omega), if_neg (by omega), if_neg (by omega), if_pos rfl]
              rw [← of_i t2.1]
              exact may_ne t2.1 A
            · have hz := congrArg Int32.toInt hsz
              have lt : (x : Int) < (sm 1 0).toInt := by omega
              rw [mi _ (by omega), if_neg (by omega), if_neg (by omega), if_neg (by omega), if_neg (by omega), if_neg (by omega)]
              exact hn 0 (by omega) x lt
          refine ⟨by rw [e1, e2, hsz], ?_, ?_, ?_, by rw [st]; omega, by rw [p0]; exact hK _ _ _ _ _ hI hJ st (fun k x1 x2 x3 x4 => by rw [c0 k x1 (by omega) (by omega) (by omega) (by omega) (by omega), kn_k hI.1 kn x1 x2 (by omega)]) (fun k x1 x2 x3 => by rw [m0 k x2, p1 k x1 x3]) (fun j x1 => by rw [m0 0 (by decide), p2 j x1]) nsn⟩
          · refine ic_gen hI (fun k x1 x2 x3 x4 => ?_) st ?_ ?_ ⟨by omega, fun i => ?_⟩ (ring_cg (ring_KN hI.1 kn) (fun k x1 x2 => c0 k (by omega) (by omega) (by omega) (by omega) (by omega) (by omega)))
            · rw [c0 k x1 (by omega) (by omega) (by omega) (by omega) (by omega), kn_k hI.1 kn x1 x2 (by omega)]
            · rw [z2, q6]; split <;> omega
            · rw [z2, q5]; omega
            · have f := fl0.2 i
              rw [c11, c12, c14, c15, q 11 (by decide) (by decide), q 12 (by decide) (by decide), q 14 (by decide) (by decide), q 15 (by decide) (by decide)]
              refine ⟨?_, ?_, ?_, ?_⟩
              · by_cases w : i = (sx 1 0).toInt.toNat
                · rw [if_pos w]; exact K
                · rw [if_neg w]; exact f.1
              · by_cases w : i = (sx 1 0).toInt.toNat
                · rw [if_pos w]; exact may_ask A
                · rw [if_neg w]; exact f.2.1
              · by_cases w : i = (sx 1 0).toInt.toNat
                · rw [if_pos w, km]; decide
                · rw [if_neg w]; exact f.2.2.1
              · by_cases w : 12 * (sx 1 0).toInt.toNat ≤ i ∧ i < 12 * (sx 1 0).toInt.toNat + 12
                · rw [if_pos w, k0]; decide
                · rw [if_neg w]; exact f.2.2.2
          · rw [p0]
            refine im_gen hM (fun k x1 x2 x3 => ?_) (fun j x1 => ?_) ?_ sv2
            · rw [m0 k x2, p1 k x1 x3]
            · rw [m0 0 (by decide), p2 j x1]
            · rw [m0 0 (by decide), p3]; split <;> omega
          · refine frel_new hI.1 sv t3.1 t3.2 hF F kn kp (by omega) z2 (fun k x1 x2 => c0 k (by omega) (by omega) (by omega) (by omega) (by omega) (by omega)) (fun x hx => ⟨by rw [c11, if_neg hx], by rw [c12, if_neg hx], by rw [c13, if_neg hx], by rw [c14, if_neg hx], fun k hk => by rw [c15, if_neg (by omega)]⟩) m0 ms (fun j x1 x2 x3 x4 => ?_) ⟨?_, ?_, ?_, ?_, fun k hk => ?_⟩
            · unfold inr at x4
              rw [mi j (by omega), if_neg (by omega), if_neg (by omega), if_neg (by omega), if_neg (by omega), if_neg (by omega), m11]
            · rw [mi _ (by omega), if_neg (by omega), if_neg (by omega), if_neg (by omega), if_neg (by omega), if_pos rfl, c11, if_pos rfl]
            · rw [mi _ (by omega), if_neg (by omega), if_neg (by omega), if_neg (by omega), if_pos rfl, c12, if_pos rfl]
            · rw [mi _ (by omega), if_neg (by omega), if_neg (by omega), if_pos rfl, c13, if_pos rfl]
            · rw [mi _ (by omega), if_neg (by omega), if_pos rfl, c14, if_pos rfl]
            · rw [mi _ (by omega), if_pos (by omega), c15, if_pos (by omega)]
      · have f1 : (sm 1 0).toInt = 12 := by rw [hsz]; omega
        refine ⟨-2000000003, -2000000003, sx, sm, lm, ?_, ?_, fun _ => rfl, rel_up h⟩
        · unfold fX11_hen
          rw [isKind1 K.1 K.2, bnd2_s, ite1, may1 A, bnd2_s, ite1, if_neg (by rw [i_lt]; omega)]
        · unfold fX12_hen
          rw [hens_is, bnd3_s, isIn1 (by rw [Int32.toInt_toInt64]; omega) (by rw [Int32.toInt_toInt64]; omega), bnd3_s, ite1, mayM1 A', bnd3_s, ite1, if_pos (by rw [i_eq]; omega)]
    · refine ⟨-2000000001, -2000000001, sx, sm, lm, ?_, ?_, fun _ => rfl, rel_up h⟩
      · unfold fX11_hen
        rw [isKind1 K.1 K.2, bnd2_s, ite1, may0 A, bnd2_s, ite0]
      · unfold fX12_hen
        rw [hens_is, bnd3_s, isIn1 (by rw [Int32.toInt_toInt64]; omega) (by rw [Int32.toInt_toInt64]; omega), bnd3_s, ite1, mayM0 (by rw [hsz]; exact A), bnd3_s, ite0]
  · refine ⟨-2000000001, -2000000001, sx, sm, lm, ?_, ?_, fun _ => rfl, rel_up h⟩
    · unfold fX11_hen
      rw [isKind0 K, bnd2_s, ite0]
    · unfold fX12_hen
      rw [hens_is, bnd3_s, isIn0 (by rw [Int32.toInt_toInt64]; omega), bnd3_s, ite0]
