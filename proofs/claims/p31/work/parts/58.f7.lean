theorem pen_rel {K : Sg → Sg → Lg → Prop} (hK : KF K) {n : Nat} {sx sm s1 m1 sx2 sm2 : Sg} {lm l1 : Lg} {a w : Int32} (h : Rel K n sx sm lm) (H : 0 ≤ a.toInt ∧ a.toInt < (sx 1 0).toInt) (hw : -1 ≤ w.toInt ∧ w.toInt ≤ 3) (k1 : KH sx a s1) (p1 : KP sm lm (m1, l1)) (c0 : ∀ k, k ≠ 14 → k ≠ 15 → sx2 k = s1 k) (c14 : ∀ i, sx2 14 i = if i = a.toNatClampNeg then w else s1 14 i) (c15 : ∀ i, sx2 15 i = if 12 * a.toNatClampNeg ≤ i ∧ i < 12 * a.toNatClampNeg + 12 then 0 else s1 15 i)
    (m0 : ∀ k, k ≠ 1 → sm2 k = m1 k) (ms : ∀ i, sm2 1 i = if 49 + 12 * a.toNatClampNeg ≤ i ∧ i < 49 + 12 * a.toNatClampNeg + 12 then 0 else if i = 37 + a.toNatClampNeg then w else m1 1 i) : Rel K (n + 1) sx2 sm2 l1 := by
  have h' := h
  obtain ⟨hI, hM, hF, hst, hJ⟩ := h'
  have t2 := rdC1_0 hI.1
  have fl0 := ic_fl hI.1
  have hc := cl_i H.1
  have k0 : (0 : Int32).toInt = 0 := by decide
  have row := hF.1.2 a.toNatClampNeg (by omega)
  have q : ∀ k, 11 ≤ k → k ≤ 15 → s1 k = sx k := fun k p q => kh_k hI.1 k1 (by omega) (by omega) (by omega)
  have sv := hM.2.2
  refine rel_change hK h (Or.inl (by rw [ms, if_neg (by omega), if_neg (by omega), kp_1 p1])) H.1 H.2 k1 p1 (fun k hk => c0 k (by omega) (by omega)) (fun x hx => ⟨by rw [c0 12 (by decide) (by decide)], by rw [c0 13 (by decide) (by decide)], by rw [c14, if_neg hx], fun k hk => by rw [c15, if_neg (by omega)]⟩) (fun i => ⟨?_, ?_, ?_⟩) m0 (fun j hj hn => ?_) ⟨?_, ?_, ?_, ?_, fun k hk => ?_⟩ ⟨?_, ?_, fun x hx => ?_, fun i p r => ?_⟩
  · rw [c0 12 (by decide) (by decide), q 12 (by decide) (by decide)]; exact (fl0.2 i).2.1
  · rw [c14]
    by_cases z : i = a.toNatClampNeg
    · rw [if_pos z]; exact hw
    · rw [if_neg z, q 14 (by decide) (by decide)]; exact (fl0.2 i).2.2.1
  · rw [c15]
    by_cases z : 12 * a.toNatClampNeg ≤ i ∧ i < 12 * a.toNatClampNeg + 12
    · rw [if_pos z, k0]; decide
    · rw [if_neg z, q 15 (by decide) (by decide)]; exact (fl0.2 i).2.2.2
  · unfold inr at hn
    rw [ms, if_neg (by omega), if_neg (by omega)]
  · rw [ms, if_neg (by omega), if_neg (by omega), kp_1 p1, c0 11 (by decide) (by decide), q 11 (by decide) (by decide)]; exact row.1
  · rw [ms, if_neg (by omega), if_neg (by omega), kp_1 p1, c0 12 (by decide) (by decide), q 12 (by decide) (by decide)]; exact row.2.1
  · rw [ms, if_neg (by omega), if_neg (by omega), kp_1 p1, c0 13 (by decide) (by decide), q 13 (by decide) (by decide)]; exact row.2.2.1
  · rw [ms, if_neg (by omega), if_pos rfl, c14, if_pos rfl]
  · rw [ms, if_pos (by omega), c15, if_pos (by omega)]
  · rw [ms, if_neg (by omega), if_neg (by omega), kp_1 p1]; exact sv.1
  · rw [ms, if_neg (by omega), if_neg (by omega), kp_1 p1]; exact sv.2.1
  · rw [ms]
    by_cases z : 49 + 12 * a.toNatClampNeg ≤ 49 + 13 * x ∧ 49 + 13 * x < 49 + 12 * a.toNatClampNeg + 12
    · rw [if_pos z]
    · rw [if_neg z, if_neg (by omega), kp_1 p1]; exact sv.2.2.1 x hx
  · rw [ms]
    by_cases z : 49 + 12 * a.toNatClampNeg ≤ i ∧ i < 49 + 12 * a.toNatClampNeg + 12
    · rw [if_pos z, k0]; decide
    · rw [if_neg z, if_neg (by omega), kp_1 p1]; exact sv.2.2.2 i p r
theorem op_pen {K : Sg → Sg → Lg → Prop} (hK : KF K) {n : Nat} {sx sm : Sg} {lm : Lg} {a b : Int32} (hn : n ≤ 1000) (h : Rel K n sx sm lm) : OpL true (fX11_pen a b sx) (fX12_pen a b sm lm) (Rel K (n + 1)) := by
  have h' := h
  obtain ⟨hI, hM, hF, hst, hJ⟩ := h'
  have hsz : (sm 1 0) = sx 1 0 := hF.1.1
  have sv := hM.2.2
  have t2 := rdC1_0 hI.1
  have t3 := rdM0_2 hM
  have k0 : (0 : Int32).toInt = 0 := by decide
  have k4 : (4 : Int32).toInt = 4 := by decide
  have j0 : (0 : Int64).toInt = 0 := by decide
  have j3 : (3 : Int64).toInt = 3 := by decide
  by_cases H : 0 ≤ a.toInt ∧ a.toInt < (sx 1 0).toInt
  · have Hm : 0 ≤ a.toInt ∧ a.toInt < (sm 1 0).toInt := by rw [hsz]; exact H
    by_cases A : 0 ≤ b.toInt ∧ b.toInt ≤ 3
    · refine opl_of (Px := fun r => r.1 = 0 ∧ ∃ s1, KH sx a s1 ∧ (∀ k, k ≠ 14 → k ≠ 15 → r.2 k = s1 k) ∧ (∀ i, r.2 14 i = if i = a.toNatClampNeg then b else s1 14 i) ∧ ∀ i, r.2 15 i = if 12 * a.toNatClampNeg ≤ i ∧ i < 12 * a.toNatClampNeg + 12 then 0 else s1 15 i) (Pm := fun r => r.1 = 0 ∧ ∃ m1, KP sm lm (m1, r.2.2) ∧ (∀ k, k ≠ 1 → r.2.1 k = m1 k) ∧ ∀ i, r.2.1 1 i = if 49 + 12 * a.toNatClampNeg ≤ i ∧ i < 49 + 12 * a.toNatClampNeg + 12 then 0 else if i = 37 + a.toNatClampNeg then b else m1 1 i) ?_ ?_ ?_
      · unfold fX11_pen
        refine bnd2_of (has1 H.1 H.2) ?_
        rw [ite1, if_neg (by rw [i_lt]; omega), if_pos (by rw [i_lt]; omega)]
        refine ok_bnd1 (k_keepHen hI.1 (by omega) H.1 (by omega)) (fun s1 k1 => ?_)
        refine ok_bnd1 (k_renewPen H.1 (by omega)) (fun s2 k2 => ?_)
        exact ok_some ⟨rfl, s1, k1, k2⟩
      · unfold fX12_pen
        refine bnd3_of (isHen1 sv Hm.1 Hm.2) ?_
        rw [ite1]
        refine bnd3_of (isIn1 (by rw [Int32.toInt_toInt64]; omega) (by rw [Int32.toInt_toInt64]; omega)) ?_
        rw [ite1]
        refine ok_bnd2 (k_keep t3.1 t3.2) (fun s1 l1 k1 => ?_)
        refine ok_bnd2 (k_empty H.1 (by omega)) (fun s2 l2 k2 => ?_)
        obtain ⟨q1, q2⟩ := k2
        replace q1 : l2 = l1 := q1
        subst q1
        exact ok_some ⟨rfl, s1, k1, q2⟩
      · rintro r sx2 r' sm2 lm2 ⟨e1, s1, k1, c0, c14, c15⟩ ⟨e2, m1, p1, m0, ms⟩
        exact ⟨e1.trans e2.symm, pen_rel hK h H (by omega) k1 p1 c0 c14 c15 m0 ms⟩
    · refine ⟨-2000000001, -2000000001, sx, sm, lm, ?_, ?_, fun _ => rfl, rel_up h⟩
      · unfold fX11_pen
        rw [has1 H.1 H.2, bnd2_s, ite1]
        by_cases c : b < 0
        · rw [if_pos c]
        · rw [if_neg c, if_neg (by rw [i_lt]; rw [i_lt] at c; omega)]
      · unfold fX12_pen
        rw [isHen1 sv Hm.1 Hm.2, bnd3_s, ite1, isIn0 (by rw [Int32.toInt_toInt64]; omega), bnd3_s, ite0]
  · refine ⟨-2000000001, -2000000001, sx, sm, lm, ?_, ?_, fun _ => rfl, rel_up h⟩
    · unfold fX11_pen
      rw [has0 H, bnd2_s, ite0]
    · unfold fX12_pen
      rw [isHen0 sv (by rw [hsz]; exact H), bnd3_s, ite0]
theorem op_leave {K : Sg → Sg → Lg → Prop} (hK : KF K) {n : Nat} {sx sm : Sg} {lm : Lg} {a : Int32} (hn : n ≤ 1000) (h : Rel K n sx sm lm) : OpL true (fX11_leave a sx) (fX12_leave a sm lm) (Rel K (n + 1)) := by
  have h' := h
  obtain ⟨hI, hM, hF, hst, hJ⟩ := h'
  have hsz : (sm 1 0) = sx 1 0 := hF.1.1
  have sv := hM.2.2
  have t2 := rdC1_0 hI.1
  have t3 := rdM0_2 hM
  have k0 : (0 : Int32).toInt = 0 := by decide
  have km : (-1 : Int32).toInt = -1 := by decide
  by_cases H : 0 ≤ a.toInt ∧ a.toInt < (sx 1 0).toInt
  · have Hm : 0 ≤ a.toInt ∧ a.toInt < (sm 1 0).toInt := by rw [hsz]; exact H
    have hc := cl_i H.1
    have row := hF.1.2 a.toNatClampNeg (by omega)
    have tw := rdC14 hI.1 (j := a.toNatClampNeg)
    by_cases A : sx 14 a.toNatClampNeg = -1
    · have A' := i_eq.mp A
      refine ⟨-2000000002, -2000000002, sx, sm, lm, ?_, ?_, fun _ => rfl, rel_up h⟩
      · unfold fX11_leave
        rw [has1 H.1 H.2, bnd2_s, ite1, gin_in (vin_i (by omega) (by omega)), if_pos A]
      · unfold fX12_leave
        rw [isHen1 sv Hm.1 Hm.2, bnd3_s, ite1, width_is H.1 (by omega), bnd3_s, if_neg (by rw [row.2.2.2.1, i_le]; omega)]
    · have A' := i_ne.mp A
      refine opl_of (Px := fun r => r.1 = 0 ∧ ∃ s1, KH sx a s1 ∧ (∀ k, k ≠ 14 → k ≠ 15 → r.2 k = s1 k) ∧ (∀ i, r.2 14 i = if i = a.toNatClampNeg then -1 else s1 14 i) ∧ ∀ i, r.2 15 i = if 12 * a.toNatClampNeg ≤ i ∧ i < 12 * a.toNatClampNeg + 12 then 0 else s1 15 i) (Pm := fun r => r.1 = 0 ∧ ∃ m1, KP sm lm (m1, r.2.2) ∧ (∀ k, k ≠ 1 → r.2.1 k = m1 k) ∧ ∀ i, r.2.1 1 i = if 49 + 12 * a.toNatClampNeg ≤ i ∧ i < 49 + 12 * a.toNatClampNeg + 12 then 0 else if i = 37 + a.toNatClampNeg then -1 else m1 1 i) ?_ ?_ ?_
      · unfold fX11_leave
        refine bnd2_of (has1 H.1 H.2) ?_
        rw [ite1]
        refine ok_gin (by omega) (by omega) ?_
        rw [if_neg A]
        refine ok_bnd1 (k_keepHen hI.1 (by omega) H.1 (by omega)) (fun s1 k1 => ?_)
        refine ok_bnd1 (k_renewPen H.1 (by omega)) (fun s2 k2 => ?_)
        exact ok_some ⟨rfl, s1, k1, k2⟩
      · unfold fX12_leave
        refine bnd3_of (isHen1 sv Hm.1 Hm.2) ?_
        rw [ite1]
        refine bnd3_of (width_is H.1 (by omega)) ?_
        rw [if_pos (by rw [row.2.2.2.1, i_le]; omega)]
        refine ok_bnd2 (k_keep t3.1 t3.2) (fun s1 l1 k1 => ?_)
        refine ok_bnd2 (k_empty H.1 (by omega)) (fun s2 l2 k2 => ?_)
        obtain ⟨q1, q2⟩ := k2
        replace q1 : l2 = l1 := q1
        subst q1
        exact ok_some ⟨rfl, s1, k1, q2⟩
      · rintro r sx2 r' sm2 lm2 ⟨e1, s1, k1, c0, c14, c15⟩ ⟨e2, m1, p1, m0, ms⟩
        exact ⟨e1.trans e2.symm, pen_rel hK h H (by rw [km]; decide) k1 p1 c0 c14 c15 m0 ms⟩
  · refine ⟨-2000000001, -2000000001, sx, sm, lm, ?_, ?_, fun _ => rfl, rel_up h⟩
    · unfold fX11_leave
      rw [has0 H, bnd2_s, ite0]
    · unfold fX12_leave
      rw [isHen0 sv (by rw [hsz]; exact H), bnd3_s, ite0]
theorem op_pecks {K : Sg → Sg → Lg → Prop} {n : Nat} {sx sm : Sg} {lm : Lg} {a b : Int32} (h : Rel K n sx sm lm) : OpL true (fX11_pecks a b sx) (fX12_pecks a b sm lm) (Rel K (n + 1)) := by
  have h' := h
  obtain ⟨hI, hM, hF, hst, hJ⟩ := h'
  have hsz : (sm 1 0) = sx 1 0 := hF.1.1
  have sv := hM.2.2
  have t2 := rdC1_0 hI.1
  have j0 : (0 : Int64).toInt = 0 := by decide
  have j11 : (11 : Int64).toInt = 11 := by decide
  by_cases H : 0 ≤ a.toInt ∧ a.toInt < (sx 1 0).toInt
  · have Hm : 0 ≤ a.toInt ∧ a.toInt < (sm 1 0).toInt := by rw [hsz]; exact H
    have hc := cl_i H.1
    have row := hF.1.2 a.toNatClampNeg (by omega)
    by_cases A : oth a b
    · obtain ⟨A1, A2, A3⟩ := A
      have hc2 := cl_i A1
      have ic := ix_c (v1 := a) (v2 := b) H.1 (by omega) A1 (by omega)
      refine ⟨(sx 15 (12 * a.toNatClampNeg + b.toNatClampNeg)).toInt64, (sx 15 (12 * a.toNatClampNeg + b.toNatClampNeg)).toInt64, sx, sm, lm, ?_, ?_, fun _ => rfl, rel_up h⟩
      · unfold fX11_pecks
        rw [has1 H.1 H.2, bnd2_s, ite1, oth1 ⟨A1, A2, A3⟩, bnd2_s, ite1]
        show gin ((a * (12 : Int32)) + b) 144 (some ((sx 15 ((a * (12 : Int32)) + b).toNatClampNeg).toInt64, sx)) = _
        rw [gin_in (vin_i (by omega) (by omega)), ic.1]
      · unfold fX12_pecks
        rw [isHen1 sv Hm.1 Hm.2, bnd3_s, ite1, isIn1 (by rw [Int32.toInt_toInt64]; omega) (by rw [Int32.toInt_toInt64]; omega), bnd3_s, ite1, if_neg A3, peckOf_is H.1 (by omega) A1 A2, bnd3_s, row.2.2.2.2 b.toNatClampNeg (by omega)]
    · refine ⟨-2000000001, -2000000001, sx, sm, lm, ?_, ?_, fun _ => rfl, rel_up h⟩
      · unfold fX11_pecks
        rw [has1 H.1 H.2, bnd2_s, ite1, oth0 A, bnd2_s, ite0]
      · unfold fX12_pecks
        rw [isHen1 sv Hm.1 Hm.2, bnd3_s, ite1]
        by_cases c : 0 ≤ b.toInt ∧ b.toInt ≤ 11
        · rw [isIn1 (by rw [Int32.toInt_toInt64]; omega) (by rw [Int32.toInt_toInt64]; omega), bnd3_s, ite1, if_pos (Decidable.byContradiction fun z => A ⟨c.1, c.2, z⟩)]
        · rw [isIn0 (by rw [Int32.toInt_toInt64]; omega), bnd3_s, ite0]
  · refine ⟨-2000000001, -2000000001, sx, sm, lm, ?_, ?_, fun _ => rfl, rel_up h⟩
    · unfold fX11_pecks
      rw [has0 H, bnd2_s, ite0]
    · unfold fX12_pecks
      rw [isHen0 sv (by rw [hsz]; exact H), bnd3_s, ite0]
theorem op_undo {K : Sg → Sg → Lg → Prop} (hK : KF K) {n : Nat} {sx sm : Sg} {lm : Lg} (hn : n ≤ 1000) (h : Rel K n sx sm lm) : OpL true (fX11_undo sx) (fX12_undo sm lm) (Rel K (n + 1)) := by
  have h' := h
  obtain ⟨hI, hM, hF, hst, hJ⟩ := h'
  have sv := hM.2.2
  have t2 := rdC1_0 hI.1
  have t3 := rdM0_2 hM
  have t4 := rdC2_0 hI.1
  have t5 := rdC2_1 hI.1
  have hk := hF.2.1
  have k0 : (0 : Int32).toInt = 0 := by decide
  by_cases c : sx 2 0 = 0
  · have c' : sm 0 2 = 0 := Int32.toInt_inj.mp (by rw [← hk, c])
    refine ⟨-2000000002, -2000000002, sx, sm, lm, ?_, ?_, fun _ => rfl, rel_up h⟩
    · unfold fX11_undo
      rw [if_pos c]
    · unfold fX12_undo
      rw [if_pos c']
  · have c' := i_ne.mp c
    have l0 := (hF.2.2 0 (by omega))
    have e0 : eix sx 0 = ((sx 2 1).toInt.toNat + 7) % 8 := rfl
    refine opl_of (Px := fun r => KT sx r.2 ∧ r.1 = (r.2 2 0).toInt64) (Pm := fun r => r.1.toInt = (sm 0 2).toInt - 1 ∧ r.2.2 = lm ∧ (∀ k, k ≠ 0 → k ≠ 1 → r.2.1 k = sm k) ∧ (∀ j, j ≠ 2 → r.2.1 0 j = sm 0 j) ∧ (r.2.1 0 2).toInt = (sm 0 2).toInt - 1 ∧ r.1 = (r.2.1 0 2).toInt64 ∧ ∀ i, r.2.1 1 i = if i < 193 then hist sm 1 i else sm 1 i) ?_ (k_undo (by omega) t3.2) ?_
    · unfold fX11_undo
      rw [if_neg c]
      refine ok_bnd1 (k_takeBack hI.1 (by omega)) (fun s1 k1 => ?_)
      exact ok_some ⟨k1, rfl⟩
    · rintro r sx2 r' sm2 lm2 ⟨kt, e1⟩ ⟨e2, m1, m2, m3, m4, m5, m6⟩
      replace kt : KT sx sx2 := kt
      replace e1 : r = (sx2 2 0).toInt64 := e1
      replace e2 : r'.toInt = (sm 0 2).toInt - 1 := e2
      replace m1 : lm2 = lm := m1
      replace m2 : ∀ k, k ≠ 0 → k ≠ 1 → sm2 k = sm k := m2
      replace m3 : ∀ j, j ≠ 2 → sm2 0 j = sm 0 j := m3
      replace m4 : (sm2 0 2).toInt = (sm 0 2).toInt - 1 := m4
      replace m6 : ∀ i, sm2 1 i = if i < 193 then hist sm 1 i else sm 1 i := m6
      subst m1
      have fr := frel_undo hI.1 sv (by omega) t3.2 hF kt (m2 2 (by decide) (by decide)) m4 (fun i hi => by rw [m6 i, if_pos hi])
      have svh : SV (sm2 1) := SV_cg l0.2 (fun j hj => by rw [m6 j, if_pos hj])
      have fl0 := ic_fl hI.1
      have rg := ic_ring hI.1
      obtain ⟨e, he, q1, q2, q3, q4, q5, q6, q7⟩ := kt
      have he8 : e < 8 := by omega
      have ge := rg e he8
      refine ⟨?_, ?_, im_gen hM (fun k a b _ => m2 k a b) m3 (by omega) svh, fr, by rw [q3]; omega, hK _ _ _ _ _ hI hJ q3 (fun k a b c d => q1 k a b (by omega) (by omega) (by omega) (by omega)) (fun k a b _ => m2 k a b) m3 (nsh_undo sv hF (by omega) (m2 2 (by decide) (by decide)) m4 (fun i hi => by rw [m6 i, if_pos hi]))⟩
      · refine Int64.toInt_inj.mp ?_
        rw [e1, Int32.toInt_toInt64, e2, q5]
        omega
      · have l1 := l0.1
        rw [e0, ← he] at l1
        have hz : (hist sm 0 0) = sx 1 0 := hF.1.1
        refine ic_gen hI (fun k a b c d => q1 k a b (by omega) (by omega) (by omega) (by omega)) q3 (by omega) (by omega) ⟨?_, fun i => ?_⟩ (ring_cg rg (fun k a b => q1 k (by omega) (by omega) (by omega) (by omega) (by omega) (by omega)))
        · rcases q7 with ⟨a, b, -⟩ | ⟨a, b, -⟩
          · rcases l1 with ⟨-, z, -⟩ | ⟨z, -⟩
            · rw [hz] at z
              have := l0.2.1
              omega
            · exact absurd z a
          · rw [b]; exact t2
        · have f := fl0.2 i
          rw [q1 11 (by decide) (by decide) (by decide) (by decide) (by decide) (by decide)]
          rcases q7 with ⟨a, b, c12, c13, c14, c15⟩ | ⟨a, b, c12, c13, c14, c15⟩
          · rw [c12, c14, c15]; exact f
          · rw [c12 i, c14 i, c15 i]
            refine ⟨f.1, ?_, ?_, ?_⟩
            · by_cases w : i = (sx (47 + e) 1).toNatClampNeg
              · rw [if_pos w]; exact ge.2.2.1
              · rw [if_neg w]; exact f.2.1
            · by_cases w : i = (sx (47 + e) 1).toNatClampNeg
              · rw [if_pos w]; exact ge.2.2.2.1
              · rw [if_neg w]; exact f.2.2.1
            · by_cases w : 12 * (sx (47 + e) 1).toNatClampNeg ≤ i ∧ i < 12 * (sx (47 + e) 1).toNatClampNeg + 12
              · rw [if_pos w]; exact ge.2.2.2.2 _
              · rw [if_neg w]; exact f.2.2.2
