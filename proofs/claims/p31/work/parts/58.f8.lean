theorem i32_of64 {w : Int64} (h0 : 0 ≤ w.toInt) (h1 : w.toInt ≤ 1000000) : w.toInt32.toInt = w.toInt := by
  rw [Int64.toInt_toInt32]
  exact bm_i (by omega) (by omega)
/-- the most that a peck may weigh -/
def mostW (x : Int32) : Int := if x = 0 then 127 else if x = 1 then 32767 else 1000000
theorem mostW_le (x : Int32) : 0 ≤ mostW x ∧ mostW x ≤ 1000000 := by
  unfold mostW
  split
  · decide
  · split <;> decide
theorem most_is {v : Int32} {sg : Sg} (hI : IC0 sg) (h0 : 0 ≤ v.toInt) (h1 : v.toInt ≤ 11) : ∃ y, fX2_mostWeight v sg = some (y, sg) ∧ y.toInt = mostW (sg 14 v.toNatClampNeg) := by
  have tw := rdC14 hI (j := v.toNatClampNeg)
  have km : (-1 : Int32).toInt = -1 := by decide
  unfold fX2_mostWeight
  rw [gin_in (vin_i (by omega) (by omega))]
  by_cases c : sg 14 v.toNatClampNeg = -1
  · rw [if_pos c, c]
    exact ⟨_, rfl, by decide⟩
  · rw [if_neg c, gin_in (vin_i (by omega) (by omega))]
    have c' := i_ne.mp c
    have e := of_i (v := sg 14 v.toNatClampNeg) (by omega)
    show ∃ y, gin (sg 14 v.toNatClampNeg) 4 (some ((spV (sg 14 v.toNatClampNeg).toNatClampNeg), sg)) = some (y, sg) ∧ _
    rw [gin_in (vin_i (by omega) (by omega))]
    refine ⟨_, rfl, ?_⟩
    rcases (show (sg 14 v.toNatClampNeg).toInt.toNat = 0 ∨ (sg 14 v.toNatClampNeg).toInt.toNat = 1 ∨ (sg 14 v.toNatClampNeg).toInt.toNat = 2 ∨ (sg 14 v.toNatClampNeg).toInt.toNat = 3 by omega) with z | z | z | z <;> rw [e, z] <;> decide
theorem op_peck {K : Sg → Sg → Lg → Prop} (hK : KF K) {n : Nat} {sx sm : Sg} {lm : Lg} {a b : Int32} {w : Int64} (hn : n ≤ 1000) (h : Rel K n sx sm lm) : OpL true (fX11_peck a b w sx) (fX12_peck a b w sm lm) (Rel K (n + 1)) := by
  have h' := h
  obtain ⟨hI, hM, hF, hst, hJ⟩ := h'
  have hsz : (sm 1 0) = sx 1 0 := hF.1.1
  have sv := hM.2.2
  have t2 := rdC1_0 hI.1
  have t3 := rdM0_2 hM
  have fl0 := ic_fl hI.1
  have k0 : (0 : Int32).toInt = 0 := by decide
  have km : (-1 : Int32).toInt = -1 := by decide
  have j0 : (0 : Int64).toInt = 0 := by decide
  have j11 : (11 : Int64).toInt = 11 := by decide
  by_cases H : 0 ≤ a.toInt ∧ a.toInt < (sx 1 0).toInt
  · have Hm : 0 ≤ a.toInt ∧ a.toInt < (sm 1 0).toInt := by rw [hsz]; exact H
    have hc := cl_i H.1
    have row := hF.1.2 a.toNatClampNeg (by omega)
    have tw := rdC14 hI.1 (j := a.toNatClampNeg)
    by_cases A : oth a b
    · obtain ⟨A1, A2, A3⟩ := A
      have hc2 := cl_i A1
      obtain ⟨y, hy, ey⟩ := most_is (v := a) hI.1 H.1 (by omega)
      have ml := mostW_le (sx 14 a.toNatClampNeg)
      -- the reference's most
      have mref : ∃ W : Int64, W.toInt = mostW (sx 14 a.toNatClampNeg) ∧ fX12_peck a b w sm lm = fX12_peck_61 a b w W sm lm := by
        have e0 : fX12_peck a b w sm lm = (if sm 1 (37 + a.toNatClampNeg) = 0 then fX12_peck_61 a b w (127 : Int64) sm lm else if sm 1 (37 + a.toNatClampNeg) = (1 : Int32) then fX12_peck_61 a b w (32767 : Int64) sm lm else fX12_peck_61 a b w (1000000 : Int64) sm lm) := by
          unfold fX12_peck
          rw [isHen1 sv Hm.1 Hm.2, bnd3_s, ite1, isIn1 (by rw [Int32.toInt_toInt64]; omega) (by rw [Int32.toInt_toInt64]; omega), bnd3_s, ite1, if_neg A3, width_is H.1 (by omega), bnd3_s]
          by_cases c : sm 1 (37 + a.toNatClampNeg) = 0
          · rw [if_pos c, if_pos c]
          · rw [if_neg c, if_neg c, width_is H.1 (by omega), bnd3_s]
        rw [e0, row.2.2.2.1]
        unfold mostW
        by_cases c : sx 14 a.toNatClampNeg = 0
        · rw [if_pos c, if_pos c]; exact ⟨127, by decide, rfl⟩
        · rw [if_neg c, if_neg c]
          by_cases d : sx 14 a.toNatClampNeg = 1
          · rw [if_pos d, if_pos d]; exact ⟨32767, by decide, rfl⟩
          · rw [if_neg d, if_neg d]; exact ⟨1000000, by decide, rfl⟩
      obtain ⟨W, eW, eR⟩ := mref
      rw [eR]
      by_cases B : 0 ≤ w.toInt ∧ w.toInt ≤ mostW (sx 14 a.toNatClampNeg)
      · by_cases M : sx 14 a.toNatClampNeg = -1
        · have M' := i_eq.mp M
          refine ⟨-2000000002, -2000000002, sx, sm, lm, ?_, ?_, fun _ => rfl, rel_up h⟩
          · unfold fX11_peck
            rw [has1 H.1 H.2, bnd2_s, ite1, oth1 ⟨A1, A2, A3⟩, bnd2_s, ite1, if_neg (by rw [j_lt]; omega), hy, bnd2_s, if_pos (by rw [j_le, Int32.toInt_toInt64]; omega), gin_in (vin_i (by omega) (by omega)), if_pos M]
          · unfold fX12_peck_61
            rw [isIn1 (by omega) (by omega), bnd3_s, ite1, width_is H.1 (by omega), bnd3_s, if_neg (by rw [row.2.2.2.1, i_le]; omega)]
        · have M' := i_ne.mp M
          have ic := ix_c (v1 := a) (v2 := b) H.1 (by omega) A1 (by omega)
          have iw := ix_w (v1 := a) (v2 := b) H.1 (by omega) A1 (by omega)
          have w32 := i32_of64 (w := w) B.1 (by omega)
          refine opl_of (Px := fun r => ∃ s1, KH sx a s1 ∧ r = ((sx 15 (12 * a.toNatClampNeg + b.toNatClampNeg)).toInt64, up2 s1 15 (12 * a.toNatClampNeg + b.toNatClampNeg) w.toInt32)) (Pm := fun r => ∃ s1 l1, KP sm lm (s1, l1) ∧ r = ((sm 1 (49 + 12 * a.toNatClampNeg + b.toNatClampNeg)).toInt64, up2 s1 1 (49 + 12 * a.toNatClampNeg + b.toNatClampNeg) w.toInt32, l1)) ?_ ?_ ?_
          · unfold fX11_peck
            refine bnd2_of (has1 H.1 H.2) ?_
            rw [ite1]
            refine bnd2_of (oth1 ⟨A1, A2, A3⟩) ?_
            rw [ite1, if_neg (by rw [j_lt]; omega)]
            refine bnd2_of hy ?_
            rw [if_pos (by rw [j_le, Int32.toInt_toInt64]; omega)]
            refine ok_gin (by omega) (by omega) ?_
            rw [if_neg M]
            refine ok_bnd1 (k_keepHen hI.1 (by omega) H.1 (by omega)) (fun s1 k1 => ?_)
            refine ok_lt (fun x18 e18 => ?_)
            rw [e18]
            refine ok_gin (by omega) (by omega) ?_
            refine ok_lt (fun x20 e20 => ?_)
            refine ok_gin (by omega) (by omega) ?_
            refine ok_lt (fun s2 e2 => ?_)
            refine ok_some ⟨s1, k1, ?_⟩
            rw [e20, e2, ic.1, kh_k hI.1 k1 (by decide) (by decide) (by decide)]
          · unfold fX12_peck_61
            refine bnd3_of (isIn1 (by omega) (by omega)) ?_
            rw [ite1]
            refine bnd3_of (width_is H.1 (by omega)) ?_
            rw [if_pos (by rw [row.2.2.2.1, i_le]; omega)]
            refine ok_bnd2 (k_keep t3.1 t3.2) (fun s1 l1 k1 => ?_)
            refine bnd3_of (peckOf_is H.1 (by omega) A1 A2) ?_
            refine ok_gin (by omega) (by omega) ?_
            refine ok_lt (fun s2 e2 => ?_)
            refine ok_some ⟨s1, l1, k1, ?_⟩
            rw [e2, iw.1, kp_1 k1]
          · rintro r sx2 r' sm2 lm2 ⟨s1, k1, e1⟩ ⟨m1, l1, p1, e2⟩
            cases e1
            cases e2
            have c : ∀ k, ¬ (12 ≤ k ∧ k ≤ 15) → up2 s1 15 (12 * a.toNatClampNeg + b.toNatClampNeg) w.toInt32 k = s1 k := fun k hk => up2_n (by omega)
            have q : ∀ k, 11 ≤ k → k ≤ 15 → s1 k = sx k := fun k p q => kh_k hI.1 k1 (by omega) (by omega) (by omega)
            have hb12 : b.toNatClampNeg < 12 := by omega
            have hab : b.toNatClampNeg ≠ a.toNatClampNeg := fun z => A3 (Int32.toInt_inj.mp (by omega))
            refine ⟨by rw [row.2.2.2.2 _ hb12], rel_change hK h (Or.inl (by rw [up2_o (by omega), kp_1 p1])) H.1 H.2 k1 p1 c (fun x hx => ⟨by rw [up2_n (by decide)], by rw [up2_n (by decide)], by rw [up2_n (by decide)], fun k hk => up2_o (by omega)⟩) (fun i => ⟨?_, ?_, ?_⟩) (fun k hk => up2_n hk) (fun j hj hn => up2_o (by unfold inr at hn; omega)) ⟨?_, ?_, ?_, ?_, fun k hk => ?_⟩ ⟨?_, ?_, fun x hx => ?_, fun i p r => ?_⟩⟩
            · rw [up2_n (by decide), q 12 (by decide) (by decide)]; exact (fl0.2 i).2.1
            · rw [up2_n (by decide), q 14 (by decide) (by decide)]; exact (fl0.2 i).2.2.1
            · rw [up2_is]
              by_cases z : 15 = 15 ∧ i = 12 * a.toNatClampNeg + b.toNatClampNeg
              · rw [if_pos z, w32]; omega
              · rw [if_neg z, q 15 (by decide) (by decide)]; exact (fl0.2 i).2.2.2
            · rw [up2_o (by omega), up2_n (by decide), q 11 (by decide) (by decide), kp_1 p1]; exact row.1
            · rw [up2_o (by omega), up2_n (by decide), q 12 (by decide) (by decide), kp_1 p1]; exact row.2.1
            · rw [up2_o (by omega), up2_n (by decide), q 13 (by decide) (by decide), kp_1 p1]; exact row.2.2.1
            · rw [up2_o (by omega), up2_n (by decide), q 14 (by decide) (by decide), kp_1 p1]; exact row.2.2.2.1
            · by_cases z : k = b.toNatClampNeg
              · rw [z, up2_e, up2_e]
              · rw [up2_o (by omega), up2_o (by omega), q 15 (by decide) (by decide), kp_1 p1]; exact row.2.2.2.2 k hk
            · rw [up2_o (by omega), kp_1 p1]; exact sv.1
            · rw [up2_o (by omega), kp_1 p1]; exact sv.2.1
            · rw [up2_o (by omega), kp_1 p1]; exact sv.2.2.1 x hx
            · rw [up2_is]
              by_cases z : 1 = 1 ∧ i = 49 + 12 * a.toNatClampNeg + b.toNatClampNeg
              · rw [if_pos z, w32]; omega
              · rw [if_neg z, kp_1 p1]; exact sv.2.2.2 i p r
      · refine ⟨-2000000001, -2000000001, sx, sm, lm, ?_, ?_, fun _ => rfl, rel_up h⟩
        · unfold fX11_peck
          rw [has1 H.1 H.2, bnd2_s, ite1, oth1 ⟨A1, A2, A3⟩, bnd2_s, ite1]
          by_cases c : w < (0 : Int64)
          · rw [if_pos c]
          · rw [if_neg c, hy, bnd2_s, if_neg (by rw [j_le, Int32.toInt_toInt64]; rw [j_lt] at c; omega)]
        · unfold fX12_peck_61
          rw [isIn0 (by omega), bnd3_s, ite0]
    · refine ⟨-2000000001, -2000000001, sx, sm, lm, ?_, ?_, fun _ => rfl, rel_up h⟩
      · unfold fX11_peck
        rw [has1 H.1 H.2, bnd2_s, ite1, oth0 A, bnd2_s, ite0]
      · unfold fX12_peck
        rw [isHen1 sv Hm.1 Hm.2, bnd3_s, ite1]
        by_cases c : 0 ≤ b.toInt ∧ b.toInt ≤ 11
        · rw [isIn1 (by rw [Int32.toInt_toInt64]; omega) (by rw [Int32.toInt_toInt64]; omega), bnd3_s, ite1, if_pos (Decidable.byContradiction fun z => A ⟨c.1, c.2, z⟩)]
        · rw [isIn0 (by rw [Int32.toInt_toInt64]; omega), bnd3_s, ite0]
  · refine ⟨-2000000001, -2000000001, sx, sm, lm, ?_, ?_, fun _ => rfl, rel_up h⟩
    · unfold fX11_peck
      rw [has0 H, bnd2_s, ite0]
    · unfold fX12_peck
      rw [isHen0 sv (by rw [hsz]; exact H), bnd3_s, ite0]
theorem isCounted_is {sx : Sg} {a : Int32} (t2 : (sx 1 0).toInt ≤ 12) (h0 : 0 ≤ a.toInt) (h1 : a.toInt < (sx 1 0).toInt) : fX2_isCounted a sx = some (if sx 11 a.toNatClampNeg = 4 ∧ ¬ sx 13 a.toNatClampNeg = 1 then 0 else 1, sx) := by
  unfold fX2_isCounted
  rw [has1 h0 h1, bnd2_s, ite1, gin_in (vin_i (by omega) (by omega))]
  by_cases c : sx 11 a.toNatClampNeg = 4
  · rw [if_pos c, gin_in (vin_i (by omega) (by omega))]
    by_cases d : sx 13 a.toNatClampNeg = 1
    · rw [if_pos d, if_neg (fun z => z.2 d)]
    · rw [if_neg d, if_pos ⟨c, d⟩]
  · rw [if_neg c, if_neg (fun z => c z.1)]
theorem op_about {K : Sg → Sg → Lg → Prop} {n : Nat} {sx sm : Sg} {lm : Lg} {a b : Int32} (h : Rel K n sx sm lm) : OpL true (fX11_about a b sx) (fX12_about a b sm lm) (Rel K (n + 1)) := by
  have h' := h
  obtain ⟨hI, hM, hF, hst, hJ⟩ := h'
  have hsz : (sm 1 0) = sx 1 0 := hF.1.1
  have sv := hM.2.2
  have t2 := rdC1_0 hI.1
  have k0 : (0 : Int32).toInt = 0 := by decide
  have k1 : (1 : Int32).toInt = 1 := by decide
  have k2 : (2 : Int32).toInt = 2 := by decide
  have k3 : (3 : Int32).toInt = 3 := by decide
  have km : (-1 : Int32).toInt = -1 := by decide
  have j0 : (0 : Int64).toInt = 0 := by decide
  have j3 : (3 : Int64).toInt = 3 := by decide
  by_cases H : 0 ≤ a.toInt ∧ a.toInt < (sx 1 0).toInt
  · have Hm : 0 ≤ a.toInt ∧ a.toInt < (sm 1 0).toInt := by rw [hsz]; exact H
    have hc := cl_i H.1
    have row := hF.1.2 a.toNatClampNeg (by omega)
    have tw := rdC14 hI.1 (j := a.toNatClampNeg)
    by_cases B : 0 ≤ b.toInt ∧ b.toInt ≤ 3
    · have eM : fX12_about a b sm lm = (if b = 0 then some ((sm 1 (1 + a.toNatClampNeg)).toInt64, sm, lm) else if b = (1 : Int32) then some ((sm 1 (13 + a.toNatClampNeg)).toInt64, sm, lm) else if b = (2 : Int32) then some (if sm 1 (1 + a.toNatClampNeg) = 4 ∧ ¬ sm 1 (25 + a.toNatClampNeg) = 1 then 0 else 1, sm, lm) else if 0 ≤ sm 1 (37 + a.toNatClampNeg) then some ((sm 1 (37 + a.toNatClampNeg)).toInt64, sm, lm) else some (-2000000005, sm, lm)) := by
        unfold fX12_about
        rw [isHen1 sv Hm.1 Hm.2, bnd3_s, ite1, isIn1 (by rw [Int32.toInt_toInt64]; omega) (by rw [Int32.toInt_toInt64]; omega), bnd3_s, ite1]
        by_cases c0 : b = 0
        · rw [if_pos c0, if_pos c0, kind_is H.1 (by omega), bnd3_s]
        · rw [if_neg c0, if_neg c0]
          by_cases c1 : b = (1 : Int32)
          · rw [if_pos c1, if_pos c1, asks_n H.1 (by omega), bnd3_s]
          · rw [if_neg c1, if_neg c1]
            by_cases c2 : b = (2 : Int32)
            · rw [if_pos c2, if_pos c2, counts_is sv Hm.1 Hm.2, bnd3_s]
              by_cases d : sm 1 (1 + a.toNatClampNeg) = 4 ∧ ¬ sm 1 (25 + a.toNatClampNeg) = 1
              · rw [if_pos d, if_pos d, ite0]
              · rw [if_neg d, if_neg d, ite1]
            · rw [if_neg c2, if_neg c2, width_is H.1 (by omega), bnd3_s]
              by_cases d : 0 ≤ sm 1 (37 + a.toNatClampNeg)
              · rw [if_pos d, if_pos d, width_is H.1 (by omega), bnd3_s]
              · rw [if_neg d, if_neg d]
      rw [eM, row.1, row.2.1, row.2.2.1, row.2.2.2.1]
      have eX : fX11_about a b sx = (if b = 0 then some ((sx 11 a.toNatClampNeg).toInt64, sx) else if b = (1 : Int32) then some ((sx 12 a.toNatClampNeg).toInt64, sx) else if b = (2 : Int32) then some (if sx 11 a.toNatClampNeg = 4 ∧ ¬ sx 13 a.toNatClampNeg = 1 then 0 else 1, sx) else if 0 ≤ sx 14 a.toNatClampNeg then some ((sx 14 a.toNatClampNeg).toInt64, sx) else some (-2000000005, sx)) := by
        unfold fX11_about
        rw [has1 H.1 H.2, bnd2_s, ite1]
        by_cases c0 : b = 0
        · rw [if_pos c0, if_pos c0, gin_in (vin_i (by omega) (by omega))]
        · rw [if_neg c0, if_neg c0]
          by_cases c1 : b = (1 : Int32)
          · rw [if_pos c1, if_pos c1, gin_in (vin_i (by omega) (by omega))]
          · rw [if_neg c1, if_neg c1]
            by_cases c2 : b = (2 : Int32)
            · rw [if_pos c2, if_pos c2, isCounted_is t2.2 H.1 H.2, bnd2_s]
              by_cases d : sx 11 a.toNatClampNeg = 4 ∧ ¬ sx 13 a.toNatClampNeg = 1
              · rw [if_pos d, if_pos d, ite0]
              · rw [if_neg d, if_neg d, ite1]
            · rw [if_neg c2, if_neg c2, if_pos (Int32.toInt_inj.mp (by have a0 := i_ne.mp c0; have a1 := i_ne.mp c1; have a2 := i_ne.mp c2; omega)), gin_in (vin_i (by omega) (by omega))]
              by_cases d : sx 14 a.toNatClampNeg = -1
              · rw [if_pos d, if_neg (by rw [i_le]; rw [i_eq] at d; omega)]
              · rw [if_neg d, if_pos (by rw [i_le]; rw [i_ne] at d; omega), gin_in (vin_i (by omega) (by omega))]
      rw [eX]
      by_cases c0 : b = 0
      · rw [if_pos c0, if_pos c0]; exact ⟨_, _, sx, sm, lm, rfl, rfl, fun _ => rfl, rel_up h⟩
      · rw [if_neg c0, if_neg c0]
        by_cases c1 : b = (1 : Int32)
        · rw [if_pos c1, if_pos c1]; exact ⟨_, _, sx, sm, lm, rfl, rfl, fun _ => rfl, rel_up h⟩
        · rw [if_neg c1, if_neg c1]
          by_cases c2 : b = (2 : Int32)
          · rw [if_pos c2, if_pos c2]; exact ⟨_, _, sx, sm, lm, rfl, rfl, fun _ => rfl, rel_up h⟩
          · rw [if_neg c2, if_neg c2]
            by_cases d : 0 ≤ sx 14 a.toNatClampNeg
            · rw [if_pos d, if_pos d]; exact ⟨_, _, sx, sm, lm, rfl, rfl, fun _ => rfl, rel_up h⟩
            · rw [if_neg d, if_neg d]; exact ⟨_, _, sx, sm, lm, rfl, rfl, fun _ => rfl, rel_up h⟩
    · refine ⟨-2000000001, -2000000001, sx, sm, lm, ?_, ?_, fun _ => rfl, rel_up h⟩
      · unfold fX11_about
        rw [has1 H.1 H.2, bnd2_s, ite1, if_neg (by rw [i_eq]; omega), if_neg (by rw [i_eq]; omega), if_neg (by rw [i_eq]; omega), if_neg (by rw [i_eq]; omega)]
      · unfold fX12_about
        rw [isHen1 sv Hm.1 Hm.2, bnd3_s, ite1, isIn0 (by rw [Int32.toInt_toInt64]; omega), bnd3_s, ite0]
  · refine ⟨-2000000001, -2000000001, sx, sm, lm, ?_, ?_, fun _ => rfl, rel_up h⟩
    · unfold fX11_about
      rw [has0 H, bnd2_s, ite0]
    · unfold fX12_about
      rw [isHen0 sv (by rw [hsz]; exact H), bnd3_s, ite0]
theorem isKind1 {v : Int32} {sg : Sg} (h0 : 0 ≤ v.toInt) (h1 : v.toInt ≤ 4) : fX11_isKind v sg = some (1, sg) := by
  have k0 : (0 : Int32).toInt = 0 := by decide
  have k4 : (4 : Int32).toInt = 4 := by decide
  unfold fX11_isKind
  rw [if_neg (by rw [i_lt]; omega), if_neg (by rw [i_lt]; omega)]
theorem isKind0 {v : Int32} {sg : Sg} (h : ¬ (0 ≤ v.toInt ∧ v.toInt ≤ 4)) : fX11_isKind v sg = some (0, sg) := by
  have k0 : (0 : Int32).toInt = 0 := by decide
  have k4 : (4 : Int32).toInt = 4 := by decide
  unfold fX11_isKind
  by_cases c : v < 0
  · rw [if_pos c]
  · rw [if_neg c, if_pos (by rw [i_lt]; rw [i_lt] at c; omega)]
theorem op_isOf {K : Sg → Sg → Lg → Prop} {n : Nat} {sx sm : Sg} {lm : Lg} {a b : Int32} (h : Rel K n sx sm lm) : OpL true (fX11_isOf a b sx) (fX12_isOf a b sm lm) (Rel K (n + 1)) := by
  have h' := h
  obtain ⟨hI, hM, hF, hst, hJ⟩ := h'
  have hsz : (sm 1 0) = sx 1 0 := hF.1.1
  have sv := hM.2.2
  have t2 := rdC1_0 hI.1
  have j0 : (0 : Int64).toInt = 0 := by decide
  have j4 : (4 : Int64).toInt = 4 := by decide
  by_cases H : 0 ≤ a.toInt ∧ a.toInt < (sx 1 0).toInt
  · have Hm : 0 ≤ a.toInt ∧ a.toInt < (sm 1 0).toInt := by rw [hsz]; exact H
    have hc := cl_i H.1
    have row := hF.1.2 a.toNatClampNeg (by omega)
    by_cases B : 0 ≤ b.toInt ∧ b.toInt ≤ 4
    · refine ⟨if b = 0 ∨ b = sx 11 a.toNatClampNeg ∨ (b = 1 ∧ sx 11 a.toNatClampNeg = 3) then 1 else 0, if b = 0 ∨ b = sx 11 a.toNatClampNeg ∨ (b = 1 ∧ sx 11 a.toNatClampNeg = 3) then 1 else 0, sx, sm, lm, ?_, ?_, fun _ => rfl, rel_up h⟩
      · unfold fX11_isOf
        rw [has1 H.1 H.2, bnd2_s, ite1, isKind1 B.1 B.2, bnd2_s, ite1, gin_in (vin_i (by omega) (by omega))]
        show (if b = 0 then some ((1 : Int64), sx) else (if b = sx 11 a.toNatClampNeg then some ((1 : Int64), sx) else (if b = (1 : Int32) then (if sx 11 a.toNatClampNeg = (3 : Int32) then some ((1 : Int64), sx) else some ((0 : Int64), sx)) else some ((0 : Int64), sx)))) = _
        by_cases c0 : b = 0
        · rw [if_pos c0, if_pos (Or.inl c0)]
        · rw [if_neg c0]
          by_cases c1 : b = sx 11 a.toNatClampNeg
          · rw [if_pos c1, if_pos (Or.inr (Or.inl c1))]
          · rw [if_neg c1]
            by_cases c2 : b = 1
            · rw [if_pos c2]
              by_cases c3 : sx 11 a.toNatClampNeg = 3
              · rw [if_pos c3, if_pos (Or.inr (Or.inr ⟨c2, c3⟩))]
              · rw [if_neg c3, if_neg (fun z => z.elim c0 (fun z => z.elim c1 (fun z => c3 z.2)))]
            · rw [if_neg c2, if_neg (fun z => z.elim c0 (fun z => z.elim c1 (fun z => c2 z.1)))]
      · unfold fX12_isOf
        rw [isHen1 sv Hm.1 Hm.2, bnd3_s, ite1, isIn1 (by rw [Int32.toInt_toInt64]; omega) (by rw [Int32.toInt_toInt64]; omega), bnd3_s, ite1]
        by_cases c0 : b = 0
        · rw [if_pos c0, if_pos (Or.inl c0)]
        · rw [if_neg c0, kind_is H.1 (by omega), bnd3_s, row.1]
          by_cases c1 : b = sx 11 a.toNatClampNeg
          · rw [if_pos c1.symm, if_pos (Or.inr (Or.inl c1))]
          · rw [if_neg (fun z => c1 z.symm)]
            by_cases c2 : b = 1
            · rw [if_pos c2, kind_is H.1 (by omega), bnd3_s, row.1]
              by_cases c3 : sx 11 a.toNatClampNeg = 3
              · rw [if_pos c3, if_pos (Or.inr (Or.inr ⟨c2, c3⟩))]
              · rw [if_neg c3, if_neg (fun z => z.elim c0 (fun z => z.elim c1 (fun z => c3 z.2)))]
            · rw [if_neg c2, if_neg (fun z => z.elim c0 (fun z => z.elim c1 (fun z => c2 z.1)))]
    · refine ⟨-2000000001, -2000000001, sx, sm, lm, ?_, ?_, fun _ => rfl, rel_up h⟩
      · unfold fX11_isOf
        rw [has1 H.1 H.2, bnd2_s, ite1, isKind0 B, bnd2_s, ite0]
      · unfold fX12_isOf
        rw [isHen1 sv Hm.1 Hm.2, bnd3_s, ite1, isIn0 (by rw [Int32.toInt_toInt64]; omega), bnd3_s, ite0]
  · refine ⟨-2000000001, -2000000001, sx, sm, lm, ?_, ?_, fun _ => rfl, rel_up h⟩
    · unfold fX11_isOf
      rw [has0 H, bnd2_s, ite0]
    · unfold fX12_isOf
      rw [isHen0 sv (by rw [hsz]; exact H), bnd3_s, ite0]
