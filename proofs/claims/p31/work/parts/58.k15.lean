/-! every call keeps JC -/
theorem wf_n {k j : Nat} (h : wf k j = true) : (k ≠ 1 ∧ k ≠ 3 ∧ k ≠ 10 ∧ (k = 4 → j = 3) ∧ ¬ (jk k ∨ jf k)) := by
  unfold wf at h
  rw [Bool.or_eq_true, Bool.and_eq_true, beq_iff_eq, beq_iff_eq] at h
  rcases h with h | h
  · simp at h
    unfold jk jf
    omega
  · unfold jk jf
    omega
theorem kw_sj {s1 : Sg} : KW (SJ s1) := by
  refine ⟨fun sg k j v hw h => h.tr ?_, fun sg n h => h.tr ?_⟩
  · obtain ⟨a, b, c, d, e⟩ := wf_n hw
    refine ⟨up2_n (fun z => a z.symm), up2_n (fun z => b z.symm), up2_n (fun z => c z.symm), fun i hi => ?_, fun i hi => up2_n (fun z => e (by rw [← z]; exact hi))⟩
    by_cases w : k = 4
    · exact up2_o (Or.inr (by rw [d w]; exact hi))
    · rw [up2_n (fun z => w z.symm)]
  · have e : ∀ k, k ≠ 66 → k ≠ 99 → nw2 sg 66 n k = sg k := fun k a b => by
      funext j
      rw [nw2_is, if_neg a, if_neg (fun z => b z.1)]
    exact ⟨e 1 (by decide) (by decide), e 3 (by decide) (by decide), e 10 (by decide) (by decide), fun j _ => by rw [e 4 (by decide) (by decide)], fun k hk => e k (by unfold jk jf at hk; omega) (by unfold jk jf at hk; omega)⟩
theorem ok_at {α : Type} {P : α → Prop} {o : Option α} {a : α} (h : Ok P o) (e : o = some a) : P a := by
  obtain ⟨b, eb, hb⟩ := h
  rw [e] at eb
  cases eb
  exact hb
theorem jk_readFrom {sg : Sg} {y : Int32 × Sg} (hI : IC sg) (hJ : JC sg) (h : fX7_readFrom sg = some y) : IC y.2 ∧ JC y.2 := by
  refine ⟨?_, ?_⟩
  · exact (ok_at (sX7_readFrom hI) h).1.1
  · unfold fX7_readFrom at h
    obtain ⟨s1, c1, h⟩ := p_bnd1 h
    have g := ok_at (j_gather hI hJ) c1
    refine JC_cg g.2.1 ?_
    rcases p_ite h with h | h
    · exact kLX7_readFrom_25 kw_sj _ h SJ.rf
    · cases h; exact SJ.rf
theorem jk_settle {sg y : Sg} (hI : IC sg) (hJ : JC sg) (h : fX3_settle sg = some y) : JC y := by
  unfold fX3_settle at h
  obtain ⟨s1, c1, h⟩ := p_bnd1 h
  have g := ok_at (j_gather hI hJ) c1
  refine JC_cg g.2.1 ?_
  rcases p_ite h with h | h
  · cases h; exact SJ.rf
  · obtain ⟨x4, e4, h⟩ := p_lt h
    obtain ⟨s5, e5, h⟩ := p_lt h
    have q5 : SJ s1 s5 := by rw [e5]; exact kw_sj.1 _ _ _ _ rfl SJ.rf
    obtain ⟨s6, c6, h⟩ := p_bnd1 h
    have q6 := kfX3_followPecks kw_sj c6 q5
    obtain ⟨s8, e8, h⟩ := p_lt h
    have q8 : SJ s1 s8 := by rw [e8]; exact kw_sj.1 _ _ _ _ rfl q6
    obtain ⟨y9, s10, c10, h⟩ := p_bnd2 h
    have q10 : SJ s1 s10 := kfX8_all (y := (y9, s10)) kw_sj c10 q8
    exact kLX3_settle_52 kw_sj _ h q10
section
variable {sx sx' : Sg} {r : Int64}
theorem jk_least (hI : IC sx) (hJ : JC sx) (h : fX11_least sx = some (r, sx')) : JC sx' := by
  unfold fX11_least at h
  obtain ⟨s1, c1, h⟩ := p_bnd1 h
  refine JC_cg (ok_at (j_solve hI hJ) c1).2.1 ?_
  obtain ⟨y4, s5, c5, h⟩ := p_bnd2 h
  have q5 := kfX9_hasLawful kw_sj c5 SJ.rf
  rcases p_ite h with h | h
  · cases h; exact q5
  · obtain ⟨y8, s9, c9, h⟩ := p_bnd2 h
    cases h
    exact kfX9_leastWeight kw_sj c9 q5
theorem jk_many (hI : IC sx) (hJ : JC sx) (h : fX11_many sx = some (r, sx')) : JC sx' := by
  unfold fX11_many at h
  obtain ⟨s1, c1, h⟩ := p_bnd1 h
  refine JC_cg (ok_at (j_solve hI hJ) c1).2.1 ?_
  obtain ⟨y4, s5, c5, h⟩ := p_bnd2 h
  cases h
  exact kfX9_howMany kw_sj c5 SJ.rf
theorem jk_best {v : Int64} (hI : IC sx) (hJ : JC sx) (h : fX11_best v sx = some (r, sx')) : JC sx' := by
  unfold fX11_best at h
  rcases p_ite h with h | h
  · obtain ⟨s1, c1, h⟩ := p_bnd1 h
    refine JC_cg (ok_at (j_solve hI hJ) c1).2.1 ?_
    obtain ⟨y4, s5, c5, h⟩ := p_bnd2 h
    have q5 := kfX9_howMany kw_sj c5 SJ.rf
    rcases p_ite h with h | h
    · obtain ⟨s9, c9, h⟩ := p_bnd1 h
      cases h
      exact kfX9_bringInHand kw_sj c9 q5
    · cases h; exact q5
  · cases h; exact hJ
theorem jk_number (hI : IC sx) (hJ : JC sx) (h : fX11_number sx = some (r, sx')) : JC sx' := by
  unfold fX11_number at h
  obtain ⟨y1, s2, c2, h⟩ := p_bnd2 h
  have q2 := jk_readFrom hI hJ c2
  rcases p_ite h with h | h
  · cases h; exact q2.2
  · obtain ⟨s5, c5, h⟩ := p_bnd1 h
    refine JC_cg (ok_at (j_solve q2.1 q2.2) c5).2.1 ?_
    obtain ⟨y8, s9, c9, h⟩ := p_bnd2 h
    cases h
    exact kfX9_numberOf_c32 kw_sj c9 SJ.rf
theorem jk_sure {a b : Int32} (hI : IC sx) (hJ : JC sx) (h : fX11_sure a b sx = some (r, sx')) : JC sx' := by
  unfold fX11_sure at h
  rcases p_ite h with h | h
  · cases h; exact hJ
  · obtain ⟨y2, s3, c3, h⟩ := p_bnd2 h
    have i3 : s3 = sx := by
      by_cases z : 0 ≤ a.toInt
      · rw [isc_b (rdC1_0 hI.1).2 z] at c3; cases c3; rfl
      · unfold fX2_isCounted at c3
        rw [has0 (by omega), bnd2_s, ite0] at c3
        cases c3; rfl
    rw [i3] at h
    rcases p_ite h with h | h
    · cases h; exact hJ
    · obtain ⟨y6, s7, c7, h⟩ := p_bnd2 h
      have i7 : s7 = sx := by
        by_cases z : 0 ≤ b.toInt
        · rw [isc_b (rdC1_0 hI.1).2 z] at c7; cases c7; rfl
        · unfold fX2_isCounted at c7
          rw [has0 (by omega), bnd2_s, ite0] at c7
          cases c7; rfl
      rw [i7] at h
      rcases p_ite h with h | h
      · cases h; exact hJ
      · obtain ⟨s10, c10, h⟩ := p_bnd1 h
        refine JC_cg (ok_at (j_solve hI hJ) c10).2.1 ?_
        obtain ⟨y13, s14, c14, h⟩ := p_bnd2 h
        have q14 := kfX9_hasLawful kw_sj c14 SJ.rf
        rcases p_ite h with h | h
        · cases h; exact q14
        · obtain ⟨s17, c17, h⟩ := p_bnd1 h
          have q17 := kfX9_agree kw_sj c17 q14
          replace h := p_gin h
          obtain ⟨x21, e21, h⟩ := p_lt h
          replace h := p_gin h
          obtain ⟨x23, e23, h⟩ := p_lt h
          obtain ⟨y24, s25, c25, h⟩ := p_bnd2 h
          have q25 := kfX9_mayStandAbove kw_sj c25 q17
          rcases p_ite h with h | h
          · cases h; exact q25
          · obtain ⟨y28, s29, c29, h⟩ := p_bnd2 h
            have q29 := kfX9_mayStandAbove kw_sj c29 q25
            rcases p_ite h with h | h
            · cases h; exact q29
            · cases h; exact q29
theorem jk_why (hI : IC sx) (hJ : JC sx) (h : fX11_why sx = some (r, sx')) : JC sx' := by
  unfold fX11_why at h
  obtain ⟨y1, s2, c2, h⟩ := p_bnd2 h
  cases h
  unfold fX6_reason at c2
  obtain ⟨s1, c1, h⟩ := p_bnd1 c2
  exact JC_cg (ok_at (j_gather hI hJ) c1).2.1 (kLX6_reason_9 kw_sj _ h SJ.rf)
theorem jk_weight (hI : IC sx) (hJ : JC sx) (h : fX11_weight sx = some (r, sx')) : JC sx' := by
  unfold fX11_weight at h
  obtain ⟨y1, s2, c2, h⟩ := p_bnd2 h
  refine JC_cg (jk_readFrom hI hJ c2).2 ?_
  rcases p_ite h with h | h
  · cases h; exact SJ.rf
  · obtain ⟨y5, s6, c6, h⟩ := p_bnd2 h
    cases h
    exact kfX7_upsetWeight kw_sj c6 SJ.rf
theorem jk_fault (hI : IC sx) (hJ : JC sx) (h : fX11_fault sx = some (r, sx')) : JC sx' := by
  unfold fX11_fault at h
  obtain ⟨y1, s2, c2, h⟩ := p_bnd2 h
  refine JC_cg (jk_readFrom hI hJ c2).2 ?_
  rcases p_ite h with h | h
  · cases h; exact SJ.rf
  · obtain ⟨y5, s6, c6, h⟩ := p_bnd2 h
    cases h
    exact kfX7_leastFault kw_sj c6 SJ.rf
theorem jk_better {a : Int32} (hI : IC sx) (hJ : JC sx) (h : fX11_better a sx = some (r, sx')) : JC sx' := by
  unfold fX11_better at h
  rcases p_ite h with h | h
  · cases h; exact hJ
  · rcases p_ite h with h | h
    · obtain ⟨y3, s4, c4, h⟩ := p_bnd2 h
      refine JC_cg (jk_readFrom hI hJ c4).2 ?_
      rcases p_ite h with h | h
      · cases h; exact SJ.rf
      · exact kLX11_better_35 kw_sj _ h SJ.rf
    · cases h; exact hJ
theorem jk_groups (hI : IC sx) (hJ : JC sx) (h : fX11_groups sx = some (r, sx')) : JC sx' := by
  unfold fX11_groups at h
  obtain ⟨s1, c1, h⟩ := p_bnd1 h
  cases h
  exact jk_settle hI hJ c1
theorem jk_groupOf {a : Int32} (hI : IC sx) (hJ : JC sx) (h : fX11_groupOf a sx = some (r, sx')) : JC sx' := by
  unfold fX11_groupOf at h
  obtain ⟨y1, s2, c2, h⟩ := p_bnd2 h
  by_cases z : 0 ≤ a.toInt ∧ a.toInt < (sx 1 0).toInt
  · rw [has1 z.1 z.2] at c2
    cases c2
    rw [ite1] at h
    obtain ⟨y5, s6, c6, h⟩ := p_bnd2 h
    rw [isc_b (rdC1_0 hI.1).2 z.1] at c6
    cases c6
    rcases p_ite h with h | h
    · cases h; exact hJ
    · obtain ⟨s9, c9, h⟩ := p_bnd1 h
      have q := jk_settle hI hJ c9
      replace h := p_gin h
      obtain ⟨x12, e12, h⟩ := p_lt h
      replace h := p_gin h
      cases h; exact q
  · rw [has0 z] at c2
    cases c2
    rw [ite0] at h
    cases h; exact hJ
theorem jk_loose (hI : IC sx) (hJ : JC sx) (h : fX11_loose sx = some (r, sx')) : JC sx' := by
  unfold fX11_loose at h
  obtain ⟨y1, s2, c2, h⟩ := p_bnd2 h
  cases h
  exact (ok_at (j_loose hI hJ) c2).2.1
theorem jk_pack (hI : IC sx) (hJ : JC sx) (h : fX11_pack sx = some (r, sx')) : JC sx' := by
  unfold fX11_pack at h
  obtain ⟨y1, s2, c2, h⟩ := p_bnd2 h
  cases h
  unfold fX10_packAll at c2
  obtain ⟨s1, c1, h⟩ := p_bnd1 c2
  refine JC_cg (ok_at (j_gather hI hJ) c1).2.1 ?_
  obtain ⟨s3, c3, h⟩ := p_bnd1 h
  have q3 := kfX10_takeAllPecks kw_sj c3 SJ.rf
  obtain ⟨s5, e5, h⟩ := p_lt h
  have q5 : SJ s1 s5 := by rw [e5]; exact kw_sj.1 _ _ _ _ rfl q3
  exact kLX10_packAll_20 kw_sj _ h q5
theorem jk_count {a : Int32} (hI : IC sx) (hJ : JC sx) (h : fX11_count a sx = some (r, sx')) : JC sx' := by
  unfold fX11_count at h
  rcases p_ite h with h | h
  · cases h; exact hJ
  rcases p_ite h with h | h
  · obtain ⟨s1, c1, h⟩ := p_bnd1 h
    cases h; exact (ok_at (j_gather hI hJ) c1).2.1
  rcases p_ite h with h | h
  · cases h; exact hJ
  rcases p_ite h with h | h
  · cases h; exact hJ
  rcases p_ite h with h | h
  · cases h; exact hJ
  rcases p_ite h with h | h
  · obtain ⟨s1, c1, h⟩ := p_bnd1 h
    refine JC_cg (ok_at (j_gather hI hJ) c1).2.1 ?_
    obtain ⟨y11, s12, c12, h⟩ := p_bnd2 h
    cases h; exact kfX8_allPecks kw_sj c12 SJ.rf
  rcases p_ite h with h | h
  · obtain ⟨y15, s16, c16, h⟩ := p_bnd2 h
    cases h; exact JC_cg hJ (kfX2_penCount kw_sj c16 SJ.rf)
  · cases h; exact hJ
theorem jk_begin (hI : IC sx) (hJ : JC sx) (h : fX11_begin sx = some (r, sx')) : JC sx' := JC_cg hJ (kfX11_begin (y := (r, sx')) kw_sj h SJ.rf)
theorem jk_stand {a : Int32} (hI : IC sx) (hJ : JC sx) (h : fX11_stand a sx = some (r, sx')) : JC sx' := JC_cg hJ (kfX11_stand (y := (r, sx')) kw_sj h SJ.rf)
theorem jk_order {a : Int32} (hI : IC sx) (hJ : JC sx) (h : fX11_order a sx = some (r, sx')) : JC sx' := JC_cg hJ (kfX11_order (y := (r, sx')) kw_sj h SJ.rf)
theorem jk_move {a b : Int32} (hI : IC sx) (hJ : JC sx) (h : fX11_move a b sx = some (r, sx')) : JC sx' := JC_cg hJ (kfX11_move (y := (r, sx')) kw_sj h SJ.rf)
theorem jk_turn (hI : IC sx) (hJ : JC sx) (h : fX11_turn sx = some (r, sx')) : JC sx' := JC_cg hJ (kfX11_turn (y := (r, sx')) kw_sj h SJ.rf)
theorem jk_ring {a b : Int32} (hI : IC sx) (hJ : JC sx) (h : fX11_ring a b sx = some (r, sx')) : JC sx' := JC_cg hJ (kfX11_ring (y := (r, sx')) kw_sj h SJ.rf)
end
/-! who asks for whom -/
/-- h asks for k, and both count -/
def Wt (sx : Sg) (h k : Nat) : Prop := cnb sx h = true ∧ ¬ sx 11 h = 0 ∧ ¬ sx 11 h = 4 ∧ sx 12 h = Int32.ofNat k ∧ k < 12 ∧ cnb sx k = true
theorem Wt_fn {sx : Sg} {h k k' : Nat} (a : Wt sx h k) (b : Wt sx h k') : k = k' := ofn_inj a.2.2.2.2.1 b.2.2.2.2.1 (a.2.2.2.1.symm.trans b.2.2.2.1)
theorem kd_cases {sx : Sg} {h : Nat} (hI : IC0 sx) (h0 : ¬ sx 11 h = 0) (h4 : ¬ sx 11 h = 4) : sx 11 h = 1 ∨ sx 11 h = 2 ∨ sx 11 h = 3 := by
  have r := rdC11 hI (j := h)
  have k0 : (0 : Int32).toInt = 0 := by decide
  have k4 : (4 : Int32).toInt = 4 := by decide
  have a0 := i_ne.mp h0
  have a4 := i_ne.mp h4
  rcases (show (sx 11 h).toInt = 1 ∨ (sx 11 h).toInt = 2 ∨ (sx 11 h).toInt = 3 by omega) with z | z | z
  · exact Or.inl (Int32.toInt_inj.mp (by rw [z]; decide))
  · exact Or.inr (Or.inl (Int32.toInt_inj.mp (by rw [z]; decide)))
  · exact Or.inr (Or.inr (Int32.toInt_inj.mp (by rw [z]; decide)))
theorem ab_wt {sx : Sg} {S : Nat → Int32} {h : Nat} (hI : IC0 sx) (hF : FEq sx S) (hh : h < 12) (hc : cnb sx h = true) : (∃ k, k < 12 ∧ Wt sx h k ∧ ab S (Int32.ofNat h) = Int32.ofNat k) ∨ ((∀ k, ¬ Wt sx h k) ∧ ab S (Int32.ofNat h) = -1) := by
  have o := ofn_n hh
  have cn0 := cl_i (i := Int32.ofNat h) (by omega)
  have en : (Int32.ofNat h).toNatClampNeg = h := by omega
  have row := hF.2 h (of_decide_eq_true hc).1
  have k0 : (0 : Int32).toInt = 0 := by decide
  have k4 : (4 : Int32).toInt = 4 := by decide
  unfold ab
  rw [en, row.1, row.2.1, cb_cnb hF hh, hc]
  by_cases c : (1 ≤ (sx 11 h).toInt ∧ (sx 11 h).toInt ≤ 3) ∧ true = true ∧ cb S (sx 12 h) = true
  · left
    obtain ⟨c1, -, c3⟩ := c
    have q := of_decide_eq_true c3
    have ra := rdC12 hI (j := h)
    have e := of_i q.1
    have lt : (sx 12 h).toInt.toNat < 12 := by omega
    refine ⟨(sx 12 h).toInt.toNat, lt, ⟨hc, fun z => by rw [z] at c1; omega, fun z => by rw [z] at c1; omega, e, lt, ?_⟩, ?_⟩
    · rw [← cb_cnb hF lt, ← e]; exact c3
    · rw [if_pos ⟨c1, rfl, c3⟩]; exact e
  · right
    refine ⟨fun k hk => c ?_, by rw [if_neg c]⟩
    obtain ⟨-, w1, w2, w3, w4, w5⟩ := hk
    have r := rdC11 hI (j := h)
    have a0 := i_ne.mp w1
    have a4 := i_ne.mp w2
    exact ⟨by omega, rfl, by rw [w3, cb_cnb hF w4]; exact w5⟩
theorem w20 {sx : Sg} {h k : Nat} (hI : IC0 sx) (hM : MC sx) (hh : h < 12) (hc : cnb sx h = true) (hk : k < 12) (hck : cnb sx k = true) : sx 20 (rk sx h) = Int32.ofNat (rk sx k) ↔ Wt sx h k := by
  obtain ⟨-, m2, m3, -, m5, -⟩ := hM
  have o := ofn_n hh
  have cn0 := cl_i (i := Int32.ofNat h) (by omega)
  have rl := rk_lt hc hh
  have rkk := rk_lt hck hk
  have r12 := rk_le sx 12
  have ok := ofn_n (j := rk sx k) (by omega)
  rw [m5 (rk sx h) rl, (m2 h hh hc).1, show (Int32.ofNat h).toNatClampNeg = h by omega]
  unfold wsl
  by_cases c : ¬ sx 11 h = 0 ∧ ¬ sx 11 h = 4 ∧ ¬ sx 12 h = -2000000005
  · rw [if_pos c]
    have ra := rdC12 hI (j := h)
    have rb : 0 ≤ (sx 12 h).toInt := by
      rcases hI.2 12 h (Or.inl rfl) with z | z
      · exact absurd z c.2.2
      · exact z
    have ca := cl_i rb
    have e := of_i rb
    have lt : (sx 12 h).toNatClampNeg < 12 := by omega
    rw [show (sx 12 h).toInt.toNat = (sx 12 h).toNatClampNeg by omega] at e
    constructor
    · intro z
      cases hca : cnb sx (sx 12 h).toNatClampNeg
      · rw [m3 _ lt hca] at z
        have := congrArg Int32.toInt z
        have km : (-1 : Int32).toInt = -1 := by decide
        omega
      · rw [(m2 _ lt hca).2.1] at z
        have l2 := rk_lt hca lt
        have := ofn_inj (by omega) (by omega) z
        have e2 := rk_inj hca hck this
        rw [e2] at e
        exact ⟨hc, c.1, c.2.1, e, hk, hck⟩
    · rintro ⟨-, -, -, w3, -, -⟩
      have oo := ofn_n hk
      have : (sx 12 h).toNatClampNeg = k := by rw [w3] at ca ⊢; omega
      rw [this]
      exact (m2 k hk hck).2.1
  · rw [if_neg c]
    constructor
    · intro z
      have := congrArg Int32.toInt z
      have km : (-1 : Int32).toInt = -1 := by decide
      omega
    · rintro ⟨-, w1, w2, w3, -, -⟩
      refine absurd ⟨w1, w2, fun z => ?_⟩ c
      have oo := ofn_n hk
      have := congrArg Int32.toInt (w3.symm.trans z)
      have kk : (-2000000005 : Int32).toInt = -2000000005 := by decide
      omega
/-- whoever is left must not stand above h; a pair that is due is h -/
def CHh (sx : Sg) (X h : Nat) : Prop := X.testBit h = false ∧ (∀ k, k < 12 → cnb sx k = true → X.testBit k = false → ¬ ((sx 11 k = 2 ∧ Wt sx k h) ∨ (¬ sx 11 h = 2 ∧ Wt sx h k))) ∧ (∀ k i, k < 12 → cnb sx k = true → X.testBit k = false → sx 11 k = 3 → X.testBit i = true → Wt sx k i → k = h)
theorem HS_f {sx : Sg} {x h : Nat} (hh : h < 12) (hc : cnb sx h = true) : (HS sx x).testBit h = x.testBit (rk sx h) := by
  unfold HS
  rw [hs_tb, decide_eq_true hh, hc]
  rfl
theorem ch_hen {sx : Sg} {x h : Nat} (hI : IC0 sx) (hM : MC sx) (hx : x < 2 ^ rk sx 12) (hh : h < 12) (hc : cnb sx h = true) : CH sx x (rk sx h) ↔ CHh sx (HS sx x) h := by
  have hM' := hM
  obtain ⟨m1, m2, m3, m4, m5, m6, m7⟩ := hM
  have en : (sx 3 2).toInt.toNat = rk sx 12 := by rw [m1]; rfl
  have rl := rk_lt hc hh
  have r12 := rk_le sx 12
  unfold CH
  rw [en]
  constructor
  · rintro ⟨c1, c2, c3, c4⟩
    refine ⟨by rw [HS_f hh hc]; exact c2, fun k hk hck hb hw => ?_, fun k i hk hck hb h3 hi hw => ?_⟩
    · rw [HS_f hk hck] at hb
      have rkk := rk_lt hck hk
      refine c3 (rk sx k) rkk hb ?_
      rw [m6 (rk sx k) (rk sx h) rkk (by omega), (m2 k hk hck).2.2, (m2 h hh hc).2.2]
      refine ⟨rl, ?_⟩
      rcases hw with ⟨z1, z2⟩ | ⟨z1, z2⟩
      · exact Or.inl ⟨z1, (w20 hI hM' hk hck hh hc).mpr z2⟩
      · exact Or.inr ⟨z1, (w20 hI hM' hh hc hk hck).mpr z2⟩
    · rw [HS_f hk hck] at hb
      have rkk := rk_lt hck hk
      have hi' := HS_tb.mp hi
      have ri := rk_lt hi'.2.1 hi'.1
      have e := c4 (rk sx k) rkk hb ⟨rk sx i, by omega, hi'.2.2, (m7 (rk sx i) (rk sx k) ri (by omega)).mpr ⟨rkk, by rw [(m2 k hk hck).2.2]; exact h3, (w20 hI hM' hk hck hi'.1 hi'.2.1).mpr hw⟩⟩
      exact rk_inj hck hc e
  · rintro ⟨c2, c3, c4⟩
    rw [HS_f hh hc] at c2
    refine ⟨rl, c2, fun s hs hb hbt => ?_, fun s hs hb hu => ?_⟩
    · obtain ⟨k, k1, k2, k3⟩ := rk_onto 12 s hs
      subst k3
      rw [m6 (rk sx k) (rk sx h) hs (by omega), (m2 k k1 k2).2.2, (m2 h hh hc).2.2] at hbt
      refine c3 k k1 k2 (by rw [HS_f k1 k2]; exact hb) ?_
      rcases hbt.2 with ⟨z1, z2⟩ | ⟨z1, z2⟩
      · exact Or.inl ⟨z1, (w20 hI hM' k1 k2 hh hc).mp z2⟩
      · exact Or.inr ⟨z1, (w20 hI hM' hh hc k1 k2).mp z2⟩
    · obtain ⟨k, k1, k2, k3⟩ := rk_onto 12 s hs
      subst k3
      obtain ⟨t, t1, t2, t3⟩ := hu
      have tn := tb_lt hx t2
      obtain ⟨i, i1, i2, i3⟩ := rk_onto 12 t tn
      subst i3
      rw [m7 (rk sx i) (rk sx k) tn (by omega), (m2 k k1 k2).2.2] at t3
      rw [c4 k i k1 k2 (by rw [HS_f k1 k2]; exact hb) t3.2.1 (by rw [HS_f i1 i2]; exact t2) ((w20 hI hM' k1 k2 i1 i2).mp t3.2.2)]
/-- the reference's may -/
def MAY (sx : Sg) (h X u : Nat) : Prop := ∀ k, Wt sx h k → (sx 11 h = 1 → X.testBit k = true) ∧ (sx 11 h = 2 → X.testBit k = false) ∧ (sx 11 h = 3 → u = k)
theorem mcn_law {sx sm : Sg} {h X u : Nat} (hI : IC0 sx) (hF : FEq sx (sm 1)) (h7 : sm 0 7 = 1) (h9 : sm 0 9 = -1) (hX : X ≤ 4095) (hu : u ≤ 12) (hh : h < 12) : MCn sm h X u ↔ (X.testBit h = false ∧ cnb sx h = true ∧ MAY sx h X u) := by
  have o := ofn_n hh
  have cn0 := cl_i (i := Int32.ofNat h) (by omega)
  have en : (Int32.ofNat h).toNatClampNeg = h := by omega
  have b := bit_x (X := X) (u := h) hX (by omega)
  have ne : ¬ (Int32.ofNat h = sm 0 9 ∧ ((Int32.ofNat X >>> ((sm 0 8) &&& 31)) &&& (1 : Int32)) = 0) := fun z => by
    have := congrArg Int32.toInt z.1
    rw [h9, o] at this
    have km : (-1 : Int32).toInt = -1 := by decide
    omega
  unfold MCn mc
  rw [cb_cnb hF hh]
  cases hb : X.testBit h
  · rw [if_neg (fun z => by rw [b.mp z] at hb; cases hb)]
    cases hc : cnb sx h
    · rw [if_neg (by decide)]
      exact ⟨fun z => absurd rfl z, fun z => absurd z.2.1 (by decide)⟩
    · rw [if_pos rfl, if_neg ne, if_neg (by rw [h7]; decide)]
      have row := hF.2 h (of_decide_eq_true hc).1
      have key : mb (sm 1) (Int32.ofNat h) (Int32.ofNat X) (Int32.ofNat u) = 0 ↔ ¬ MAY sx h X u := by
        unfold mb
        rw [en, row.1]
        rcases ab_wt hI hF hh hc with ⟨k, k1, k2, k3⟩ | ⟨k1, k2⟩
        · have ok := ofn_n k1
          have kd := kd_cases hI k2.2.1 k2.2.2.1
          have bk := bit_x (X := X) (u := k) hX (by omega)
          have all : MAY sx h X u ↔ ((sx 11 h = 1 → X.testBit k = true) ∧ (sx 11 h = 2 → X.testBit k = false) ∧ (sx 11 h = 3 → u = k)) :=
            ⟨fun z => z k k2, fun z k' hk' => by rw [← Wt_fn k2 hk']; exact z⟩
          rw [all, k3, if_pos (by rw [i_le]; rw [ok]; exact Int.natCast_nonneg _)]
          rcases kd with z | z | z
          · rw [z, if_pos rfl]
            cases hk : X.testBit k
            · rw [if_neg (fun y => by rw [bk.mp y] at hk; cases hk)]
              exact ⟨fun _ y => absurd (y.1 rfl) (by decide), fun _ => rfl⟩
            · rw [if_pos (bk.mpr hk)]
              exact ⟨fun y => absurd y (by decide), fun y => absurd ⟨fun _ => rfl, fun w => absurd w (by decide), fun w => absurd w (by decide)⟩ y⟩
          · rw [z, if_neg (by decide), if_pos rfl]
            cases hk : X.testBit k
            · rw [if_neg (fun y => by rw [bk.mp y] at hk; cases hk)]
              exact ⟨fun y => absurd y (by decide), fun y => absurd ⟨fun w => absurd w (by decide), fun _ => rfl, fun w => absurd w (by decide)⟩ y⟩
            · rw [if_pos (bk.mpr hk)]
              exact ⟨fun _ y => absurd (y.2.1 rfl) (by decide), fun _ => rfl⟩
          · rw [z, if_neg (by decide), if_neg (by decide)]
            have ou := ofn_x (X := u) (by omega)
            by_cases c : u = k
            · rw [if_pos (by rw [c])]
              exact ⟨fun y => absurd y (by decide), fun y => absurd ⟨fun w => absurd w (by decide), fun w => absurd w (by decide), fun _ => c⟩ y⟩
            · rw [if_neg (fun y => c (by have := congrArg Int32.toInt y; omega))]
              exact ⟨fun _ y => c (y.2.2 rfl), fun _ => rfl⟩
        · rw [k2, if_neg (by decide)]
          exact ⟨fun y => absurd y (by decide), fun y => absurd (fun k hk => absurd hk (k1 k)) y⟩
      constructor
      · intro z
        refine ⟨rfl, rfl, Classical.byContradiction fun y => z ?_⟩
        rw [if_pos (key.mpr y)]
      · rintro ⟨-, -, y⟩
        rw [if_neg (fun w => key.mp w y)]
        decide
  · rw [if_pos (b.mpr hb)]
    exact ⟨fun z => absurd rfl z, fun z => absurd z.1 (by decide)⟩
/-! lawful orders: class and reference -/
/-- nobody that is left has been passed by -/
def Good (sx : Sg) (X u : Nat) : Prop := ∀ k i, k < 12 → cnb sx k = true → X.testBit k = false → Wt sx k i → X.testBit i = true → ¬ sx 11 k = 2 ∧ (sx 11 k = 3 → i = u)
theorem in_A {sx : Sg} {S : Nat → Int32} {A k : Nat} (hF : FEq sx S) (h12 : (sx 1 0).toInt ≤ 12) (hA : A = (ctg S (S 0).toInt.toNat).toInt.toNat) (hk : k < 12) (hc : cnb sx k = true) : A.testBit k = true := by
  rw [hA]
  have lt := (of_decide_eq_true hc).1
  exact (ctg_tb k _ (by rw [hF.1]; omega)).mpr ⟨by rw [hF.1]; omega, by rw [cb_cnb hF hk]; exact hc⟩
theorem vn_le {sx : Sg} {S : Nat → Int32} {A X u : Nat} (hF : FEq sx S) (h12 : (sx 1 0).toInt ≤ 12) (hA : A = (ctg S (S 0).toInt.toNat).toInt.toNat) (h : vn A X u) : X ≤ 4095 ∧ u ≤ 12 := by
  have s12 : (S 0).toInt.toNat ≤ 12 := by rw [hF.1]; omega
  have : X < 2 ^ 12 := lt_of_tb (fun j hj => by
    have := h.1 j hj
    rw [hA] at this
    have := ((ctg_tb j _ s12).mp this).1
    omega)
  have e : (2 : Nat) ^ 12 = 4096 := by decide
  have := h.2
  omega
theorem vn_next {A X u h : Nat} (hv : vn A X u) (hA : A.testBit h = true) (hh : h < 12) : vn A (X ||| 2 ^ h) h := by
  refine ⟨fun j hj => ?_, Or.inr ⟨hh, by rw [tb_or, decide_eq_true rfl, Bool.or_true]⟩⟩
  rw [tb_or, Bool.or_eq_true, decide_eq_true_eq] at hj
  rcases hj with z | z
  · exact hv.1 j z
  · rw [← z]; exact hA
theorem tb_orf {X h k : Nat} (hk : X.testBit k = false) (ne : k ≠ h) : (X ||| 2 ^ h).testBit k = false := by
  rw [tb_or, hk, decide_eq_false (fun z => ne z.symm)]; rfl
theorem tb_ort {X h k : Nat} (hk : X.testBit k = true) : (X ||| 2 ^ h).testBit k = true := by
  rw [tb_or, hk]; rfl
/-- where one has been passed by there is no way on -/
theorem dead {sx sm : Sg} {lm : Lg} {A : Nat} (hI : IC0 sx) (hF : FEq sx (sm 1)) (h7 : sm 0 7 = 1) (h9 : sm 0 9 = -1) (hA : A = (ctg (sm 1) (sm 1 0).toInt.toNat).toInt.toNat) (hR : ∀ X u, vn A X u → RN sm lm A X u) : ∀ d X u, 4096 ≤ X + d → vn A X u → ¬ Good sx X u → Lv lm X u = 1000000000000000 ∧ Wv lm X u = 0 := by
  have t2 := rdC1_0 hI
  intro d
  induction d with
  | zero => intro X u hd hv; have := vn_le hF t2.2 hA hv; omega
  | succ d ih =>
    intro X u hd hv hg
    have le := vn_le hF t2.2 hA hv
    obtain ⟨k, hg⟩ := Classical.not_forall.mp hg
    obtain ⟨i, hg⟩ := Classical.not_forall.mp hg
    obtain ⟨k12, hg⟩ := Classical.not_forall.mp hg
    obtain ⟨kc, hg⟩ := Classical.not_forall.mp hg
    obtain ⟨kX, hg⟩ := Classical.not_forall.mp hg
    obtain ⟨kw, hg⟩ := Classical.not_forall.mp hg
    obtain ⟨iX, hg⟩ := Classical.not_forall.mp hg
    have bad : sx 11 k = 2 ∨ (sx 11 k = 3 ∧ ¬ i = u) := by
      by_cases c : sx 11 k = 2
      · exact Or.inl c
      · refine Or.inr (Classical.byContradiction fun z => hg ⟨c, fun y => Classical.byContradiction fun w => z ⟨y, w⟩⟩)
    have ne : ¬ X = A := fun z => by
      have := in_A hF t2.2 hA k12 kc
      rw [← z, kX] at this
      cases this
    obtain ⟨-, r2, -, r4⟩ := hR X u hv
    obtain ⟨b1, b2, b3⟩ := r4 ne
    have all : ∀ h, h < 12 → MCn sm h X u → nx sm lm h X = 1000000000000000 := by
      intro h hh m
      obtain ⟨m1, m2, m3⟩ := (mcn_law hI hF h7 h9 le.1 le.2 hh).mp m
      have hk : k ≠ h := fun z => by
        rw [← z] at m3
        have := m3 i kw
        rcases bad with y | y
        · have := this.2.1 y
          rw [iX] at this; cases this
        · exact y.2 (this.2.2 y.1).symm
      have ih' := ih (X ||| 2 ^ h) h (by have := or_gt m1; omega) (vn_next hv (in_A hF t2.2 hA hh m2) hh) (fun g => by
        have := g k i k12 kc (tb_orf kX hk) kw (tb_ort iX)
        rcases bad with y | y
        · exact this.1 y
        · have e := this.2 y.1
          rw [e, m1] at iX
          cases iX)
      unfold nx
      rw [ih'.1, if_neg (by decide)]
    refine ⟨?_, ?_⟩
    · rcases b2 with y | ⟨h, y1, y2, y3⟩
      · exact y
      · rw [y3]; exact all h y1 y2
    · rw [b3]
      refine SF_0 12 (fun h hh hp => absurd hp.2.1 (by rw [all h hh hp.1]; decide))
/-- the weight as the reference has it -/
def rw' (v : Int) : Int := if v = 1000000000 then 1000000000000000 else v
set_option maxHeartbeats 4000000 in
theorem law_eq {sx sm : Sg} {lm : Lg} {A : Nat} (hI : IC0 sx) (hF : FEq sx (sm 1)) (hM : MC sx) (hO : OV sx) (h7 : sm 0 7 = 1) (h9 : sm 0 9 = -1) (hA : A = (ctg (sm 1) (sm 1 0).toInt.toNat).toInt.toNat) (ns : ∀ h, ¬ Wt sx h h) (hR : ∀ X u, vn A X u → RN sm lm A X u) : ∀ d x u, x < 2 ^ rk sx 12 → 2 ^ rk sx 12 ≤ x + d → vn A (HS sx x) u → Good sx (HS sx x) u → Lv lm (HS sx x) u = rw' (rr sx x) ∧ Wv lm (HS sx x) u = ws sx x := by
  have t2 := rdC1_0 hI
  have n12 := rk_le sx 12
  have en : (sx 3 2).toInt.toNat = rk sx 12 := by rw [hM.1]; rfl
  unfold OV at hO
  rw [en] at hO
  have hall := HS_all hF t2.2
  rw [← hA] at hall
  intro d
  induction d with
  | zero => intro x u hx hd; omega
  | succ d ih =>
    intro x u hx hd hv hg
    obtain ⟨l1, l2, l3⟩ := hO x (by omega) hx
    obtain ⟨r1, r2, r3, r4⟩ := hR _ u hv
    by_cases c : x = 2 ^ rk sx 12 - 1
    · obtain ⟨y1, y2⟩ := l2 c
      obtain ⟨z1, z2⟩ := r3 (by rw [c]; exact hall)
      rw [y1, y2]
      exact ⟨z1, z2⟩
    · have ne : ¬ HS sx x = A := fun z => c (HS_inj hx (by omega) (by rw [z, hall]))
      have le := HS_le sx x
      have ule := (vn_le hF t2.2 hA hv).2
      obtain ⟨b1, b2, b3⟩ := r4 ne
      obtain ⟨q1, q2, q3, q4⟩ := l3 c
      -- who may come is a choice, but for those who lead nowhere
      have toM : ∀ h, h < 12 → cnb sx h = true → CHh sx (HS sx x) h → MCn sm h (HS sx x) u := by
        intro h hh hc ⟨c1, c2, c3⟩
        refine (mcn_law hI hF h7 h9 le ule hh).mpr ⟨c1, hc, fun k hk => ⟨fun z => ?_, fun z => ?_, fun z => ?_⟩⟩
        · cases hb : (HS sx x).testBit k
          · exact absurd (Or.inr ⟨by rw [z]; decide, hk⟩) (c2 k hk.2.2.2.2.1 hk.2.2.2.2.2 hb)
          · rfl
        · cases hb : (HS sx x).testBit k
          · rfl
          · exact absurd z (hg h k hh hc c1 hk hb).1
        · cases hb : (HS sx x).testBit k
          · exact absurd (Or.inr ⟨by rw [z]; decide, hk⟩) (c2 k hk.2.2.2.2.1 hk.2.2.2.2.2 hb)
          · exact ((hg h k hh hc c1 hk hb).2 z).symm
      -- a choice leads on
      have good : ∀ h, h < 12 → cnb sx h = true → CHh sx (HS sx x) h → Good sx (HS sx x ||| 2 ^ h) h := by
        intro h hh hc ⟨c1, c2, c3⟩ k i hk hck hb hw hi
        have hb' : (HS sx x).testBit k = false ∧ k ≠ h := by
          rw [tb_or, Bool.or_eq_false_iff] at hb
          exact ⟨hb.1, fun z => of_decide_eq_false hb.2 z.symm⟩
        rw [tb_or, Bool.or_eq_true, decide_eq_true_eq] at hi
        rcases hi with z | z
        · have g := hg k i hk hck hb'.1 hw z
          refine ⟨g.1, fun y => absurd (c3 k i hk hck hb'.1 y z hw) hb'.2⟩
        · subst z
          exact ⟨fun y => c2 k hk hck hb'.1 (Or.inl ⟨y, hw⟩), fun _ => rfl⟩
      -- no choice: a dead end
      have noCh : ∀ h, h < 12 → cnb sx h = true → MCn sm h (HS sx x) u → ¬ CHh sx (HS sx x) h → ¬ Good sx (HS sx x ||| 2 ^ h) h := by
        intro h hh hc m nc g
        obtain ⟨m1, -, m3⟩ := (mcn_law hI hF h7 h9 le ule hh).mp m
        refine nc ⟨m1, fun k hk hck hb hw => ?_, fun k i hk hck hb h3 hi hw => Classical.byContradiction fun z => ?_⟩
        · rcases hw with ⟨y1, y2⟩ | ⟨y1, y2⟩
          · have kh : k ≠ h := fun z => by rw [z] at y2; exact ns h y2
            exact (g k h hk hck (tb_orf hb kh) y2 (by rw [tb_or, decide_eq_true rfl, Bool.or_true])).1 y1
          · rcases kd_cases hI y2.2.1 y2.2.2.1 with z | z | z
            · have := (m3 k y2).1 z
              rw [hb] at this; cases this
            · exact y1 z
            · have uk := (m3 k y2).2.2 z
              rcases hv.2 with w | w
              · omega
              · rw [uk, hb] at w
                exact absurd w.2 (by decide)
        · have := (g k i hk hck (tb_orf hb z) hw (tb_ort hi)).2 h3
          rw [this, m1] at hi
          cases hi
      have zl := zc_le x (rk sx 12)
      -- what a choice gives
      have nxC : ∀ h, h < 12 → cnb sx h = true → CHh sx (HS sx x) h → nx sm lm h (HS sx x) = (if rr sx (x ||| 2 ^ rk sx h) = 1000000000 then 1000000000000000 else rval sx x (rk sx h)) ∧ Wv lm (HS sx x ||| 2 ^ h) h = ws sx (x ||| 2 ^ rk sx h) ∧ (rr sx (x ||| 2 ^ rk sx h) = 1000000000 ∨ rr sx (x ||| 2 ^ rk sx h) ≤ 144000000) ∧ 0 ≤ rr sx (x ||| 2 ^ rk sx h) := by
        intro h hh hc ch
        have rl := rk_lt hc hh
        have hb : x.testBit (rk sx h) = false := by rw [← HS_f hh hc]; exact ch.1
        have ol := or_lt hx rl
        have og := or_gt hb
        have oe := HS_or (x := x) hh hc
        have vnx : vn A (HS sx (x ||| 2 ^ rk sx h)) h := by rw [oe]; exact vn_next hv (in_A hF t2.2 hA hh hc) hh
        have e := ih (x ||| 2 ^ rk sx h) h ol (by omega) vnx (by rw [oe]; exact good h hh hc ch)
        have lb := (hO (x ||| 2 ^ rk sx h) (by omega) ol).1
        have zl2 := zc_le (x ||| 2 ^ rk sx h) (rk sx 12)
        rw [oe] at e
        have lb2 : rr sx (x ||| 2 ^ rk sx h) = 1000000000 ∨ rr sx (x ||| 2 ^ rk sx h) ≤ 144000000 := by
          rcases lb.2.1 with y | y
          · exact Or.inl y.1
          · right; omega
        refine ⟨?_, e.2, lb2, lb.1⟩
        unfold nx rval
        rw [e.1, cm_cs hF hM hh hc hx]
        unfold rw'
        by_cases w : rr sx (x ||| 2 ^ rk sx h) = 1000000000
        · rw [if_pos w, if_pos w, if_neg (by decide)]
        · rw [if_neg w, if_neg w, if_pos (by omega)]
          omega
      have nxN : ∀ h, h < 12 → MCn sm h (HS sx x) u → ¬ CHh sx (HS sx x) h → nx sm lm h (HS sx x) = 1000000000000000 := by
        intro h hh m nc
        obtain ⟨m1, m2, -⟩ := (mcn_law hI hF h7 h9 le ule hh).mp m
        have e := dead hI hF h7 h9 hA hR 4096 (HS sx x ||| 2 ^ h) h (by omega) (vn_next hv (in_A hF t2.2 hA hh m2) hh) (noCh h hh m2 m nc)
        unfold nx
        rw [e.1, if_neg (by decide)]
      have csb := fun j => cs_bd hI j x
      by_cases big : rr sx x = 1000000000
      · have all : ∀ h, h < 12 → MCn sm h (HS sx x) u → nx sm lm h (HS sx x) = 1000000000000000 := by
          intro h hh m
          by_cases ch : CHh sx (HS sx x) h
          · obtain ⟨m1, m2, -⟩ := (mcn_law hI hF h7 h9 le ule hh).mp m
            have n := nxC h hh m2 ch
            have q := q2 (rk sx h) ((ch_hen hI hM hx hh m2).mpr ch)
            have cb := csb (rk sx h)
            unfold rval at q
            have z : rr sx (x ||| 2 ^ rk sx h) = 1000000000 := by
              rcases n.2.2.1 with y | y
              · exact y
              · omega
            rw [n.1, if_pos z]
          · exact nxN h hh m ch
        refine ⟨?_, ?_⟩
        · unfold rw'
          rw [if_pos big]
          rcases b2 with y | ⟨h, y1, y2, y3⟩
          · exact y
          · rw [y3]; exact all h y1 y2
        · rw [b3, SF_0 12 (fun h hh hp => absurd hp.2.1 (by rw [all h hh hp.1]; decide))]
          rcases l1.2.1 with y | y
          · exact y.2.symm
          · omega
      · have small : rr sx x ≤ 144000000 := by
          rcases l1.2.1 with y | y
          · exact absurd y.1 big
          · omega
        have eL : Lv lm (HS sx x) u = rr sx x := by
          rcases q3 with y | ⟨j, y1, y2⟩
          · exact absurd y big
          · obtain ⟨h0, z1, z2, z3⟩ := rk_onto 12 j (by rw [← en]; exact y1.1)
            subst z3
            have ch := (ch_hen hI hM hx z1 z2).mp y1
            have n := nxC h0 z1 z2 ch
            have cb := csb (rk sx h0)
            have y2' := y2
            unfold rval at y2'
            have e1 : nx sm lm h0 (HS sx x) = rr sx x := by
              rw [n.1, if_neg (by omega), ← y2]
            have up := b1 h0 z1 (toM h0 z1 z2 ch)
            rw [e1] at up
            rcases b2 with w | ⟨h, w1, w2, w3⟩
            · omega
            · have m := (mcn_law hI hF h7 h9 le ule w1).mp w2
              by_cases chh : CHh sx (HS sx x) h
              · have n2 := nxC h w1 m.2.1 chh
                have q := q2 (rk sx h) ((ch_hen hI hM hx w1 m.2.1).mpr chh)
                rw [n2.1] at w3
                by_cases v : rr sx (x ||| 2 ^ rk sx h) = 1000000000
                · rw [if_pos v] at w3; omega
                · rw [if_neg v] at w3; omega
              · rw [nxN h w1 w2 chh] at w3
                omega
        refine ⟨by unfold rw'; rw [if_neg big]; exact eL, ?_⟩
        rw [b3, q4, eL]
        have s1 := SF_rk (sx := sx) (p := fun h => MCn sm h (HS sx x) u ∧ nx sm lm h (HS sx x) < 1000000000000000 ∧ nx sm lm h (HS sx x) = rr sx x) (q := fun j => CH sx x j ∧ rval sx x j = rr sx x) (w := fun h => Wv lm (HS sx x ||| 2 ^ h) h) (v := fun j => ws sx (x ||| 2 ^ j)) (fun h hh hc => ?_) (fun h hh hc hp => ?_) (fun h hh hc hp => ?_) 12 (by decide)
        · have s2 := SF_ext (q := fun j => CH sx x j ∧ rval sx x j = rr sx x) (v := fun j => ws sx (x ||| 2 ^ j)) (n := rk sx 12) (fun j hj hq => by
            have := hq.1.1
            rw [en] at this
            omega) (12 - rk sx 12)
          rw [show rk sx 12 + (12 - rk sx 12) = 12 by omega] at s2
          rw [s1, s2]
        · constructor
          · rintro ⟨p1, p2, p3⟩
            by_cases ch : CHh sx (HS sx x) h
            · have n := nxC h hh hc ch
              rw [n.1] at p2 p3
              by_cases v : rr sx (x ||| 2 ^ rk sx h) = 1000000000
              · rw [if_pos v] at p2; omega
              · rw [if_neg v] at p3
                exact ⟨(ch_hen hI hM hx hh hc).mpr ch, p3⟩
            · rw [nxN h hh p1 ch] at p2
              omega
          · rintro ⟨p1, p2⟩
            have ch := (ch_hen hI hM hx hh hc).mp p1
            have n := nxC h hh hc ch
            have cb := csb (rk sx h)
            have p2' := p2
            unfold rval at p2'
            have e1 : nx sm lm h (HS sx x) = rr sx x := by rw [n.1, if_neg (by omega), p2]
            exact ⟨toM h hh hc ch, by rw [e1]; omega, e1⟩
        · have := ((mcn_law hI hF h7 h9 le ule hh).mp hp.1).2.1
          rw [hc] at this; cases this
        · by_cases ch : CHh sx (HS sx x) h
          · exact (nxC h hh hc ch).2.1
          · have p2 := hp.2.1
            rw [nxN h hh hp.1 ch] at p2
            omega
theorem good0 (sx : Sg) (u : Nat) : Good sx 0 u := fun k i _ _ _ _ hi => by rw [Nat.zero_testBit] at hi; cases hi
/-! least and many: the answers are alike -/
theorem ns_wt {sx sm : Sg} (hF : FEq sx (sm 1)) (hN : NSH sm) : ∀ h, ¬ Wt sx h h := by
  intro h hw
  have lt := (of_decide_eq_true hw.1).1
  have row := hF.2 h lt
  exact hN 0 (Nat.zero_le _) h (by show (h : Int) < (sm 1 0).toInt; rw [hF.1]; exact lt) (by show sm 1 (13 + h) = Int32.ofNat h; rw [row.2.1]; exact hw.2.2.2.1)
/-- the reference's tables behind a lawful fill -/
def RLw (sm : Sg) (s : Sg) (l : Lg) : Prop := ∃ A : Nat, A = (ctg (s 1) (s 1 0).toInt.toNat).toInt.toNat ∧ s 1 = sm 1 ∧ s 0 7 = 1 ∧ s 0 9 = -1 ∧ (∀ X u, vn A X u → RN s l A X u) ∧ FM0 sm s
theorem x_law {sm : Sg} {lm : Lg} (sv : SV (sm 1)) : Ok (fun q => RLw sm q.1 q.2) (fX12_fill (1 : Int32) (-1 : Int32) (-1 : Int32) sm lm) := by
  refine ok_mono (x_fill sv (by decide) (by decide)) (fun q hs => ?_)
  obtain ⟨A, hA, f1, ⟨f7, f8, f9, fm⟩, hD⟩ := hs
  have sv' : SV (q.1 1) := by rw [f1]; exact sv
  have hA' : A = ctg (q.1 1) (q.1 1 0).toInt.toNat := by rw [f1]; exact hA
  exact ⟨A.toInt.toNat, by rw [hA'], f1, f7, f9, rn_of sv' hA' hD, fm⟩
/-- the first state -/
theorem law0 {sx s : Sg} {sm : Sg} {l : Lg} (hI : IC0 sx) (hF : FEq sx (sm 1)) (hM : MC sx) (hO : OV sx) (ns : ∀ h, ¬ Wt sx h h) (hR : RLw sm s l) : Lv l 0 12 = rw' (rr sx 0) ∧ Wv l 0 12 = ws sx 0 ∧ 0 ≤ rr sx 0 ∧ (rr sx 0 = 1000000000 ∨ rr sx 0 ≤ 144000000) := by
  obtain ⟨A, m1, m2, m3, m4, m5, -⟩ := hR
  have hF' : FEq sx (s 1) := by rw [m2]; exact hF
  have e := law_eq hI hF' hM hO m3 m4 m1 ns m5 (2 ^ rk sx 12) 0 12 (Nat.pow_pos (by decide)) (by omega) ⟨fun j hj => absurd hj (by rw [HS_0, Nat.zero_testBit]; decide), Or.inl ⟨rfl, HS_0 sx⟩⟩ (by rw [HS_0]; exact good0 sx 12)
  rw [HS_0] at e
  have b := (hO 0 (by omega) (Nat.pow_pos (by decide))).1
  have n12 := rdC3_2 hI
  have zl := zc_le 0 (sx 3 2).toInt.toNat
  refine ⟨e.1, e.2, b.1, ?_⟩
  rcases b.2.1 with y | y
  · exact Or.inl y.1
  · right; omega
theorem val_least {K : Sg → Sg → Lg → Prop} {n : Nat} {sx sm sx' sm' : Sg} {lm lm' : Lg} {r r' : Int64} (h : Rel K n sx sm lm) (hJ : JC sx) (hN : NSH sm) (e1 : fX11_least sx = some (r, sx')) (e2 : fX12_least sm lm = some (r', sm', lm')) : r = r' := by
  obtain ⟨hI, hM, hF, -⟩ := h
  have kc : (12 : Int32).toNatClampNeg = 12 := by decide
  have k0 : (0 : Int32).toNatClampNeg = 0 := by decide
  have kN : (1000000000 : Int32).toInt = 1000000000 := by decide
  have kE : (1000000000000000 : Int64).toInt = 1000000000000000 := by decide
  unfold fX11_least at e1
  obtain ⟨s1, c1, e1⟩ := p_bnd1 e1
  obtain ⟨i1, -, mc1, -, ov1, -, f1⟩ := ok_at (j_solve hI hJ) c1
  have F1 : FEq s1 (sm 1) := FEq_cg hF.1 (fun k hk => f1 k (by unfold flq at hk; omega))
  unfold fX12_least at e2
  obtain ⟨s2, l2, c2, e2⟩ := p_bnd2 e2
  have R := ok_at (x_law hM.2.2) c2
  have z := law0 i1.1 F1 mc1 ov1 (ns_wt F1 hN) R
  replace e2 : gin (12 : Int32) 53248 (if (l2 4 (12 : Int32).toNatClampNeg) < (1000000000000000 : Int64) then gin (12 : Int32) 53248 (some ((l2 4 (12 : Int32).toNatClampNeg), s2, l2)) else some ((-2000000005 : Int64), s2, l2)) = some (r', sm', lm') := e2
  replace e2 := p_gin e2
  rw [kc] at e2
  have eL : (l2 4 12).toInt = rw' (rr s1 0) := z.1
  unfold rw' at eL
  obtain ⟨y4, s5, c5, e1⟩ := p_bnd2 e1
  unfold fX9_hasLawful at c5
  replace c5 := p_gin c5
  rw [k0] at c5
  have er : (s1 63 0).toInt = rr s1 0 := rfl
  by_cases w : rr s1 0 = 1000000000
  · rw [if_pos (by rw [i_le]; omega)] at c5
    cases c5
    rw [ite0] at e1
    cases e1
    rw [if_pos w] at eL
    rw [if_neg (by rw [j_lt]; omega)] at e2
    cases e2
    rfl
  · rw [if_neg (by rw [i_le]; omega)] at c5
    cases c5
    rw [ite1] at e1
    obtain ⟨y8, s9, c9, e1⟩ := p_bnd2 e1
    unfold fX9_leastWeight at c9
    replace c9 := p_gin c9
    rw [k0] at c9
    cases c9
    cases e1
    rw [if_neg w] at eL
    rw [if_pos (by rw [j_lt]; omega)] at e2
    replace e2 := p_gin e2
    cases e2
    refine Int64.toInt_inj.mp ?_
    rw [Int32.toInt_toInt64, er, eL]
theorem val_many {K : Sg → Sg → Lg → Prop} {n : Nat} {sx sm sx' sm' : Sg} {lm lm' : Lg} {r r' : Int64} (h : Rel K n sx sm lm) (hJ : JC sx) (hN : NSH sm) (e1 : fX11_many sx = some (r, sx')) (e2 : fX12_many sm lm = some (r', sm', lm')) : r = r' := by
  obtain ⟨hI, hM, hF, -⟩ := h
  have kc : (12 : Int32).toNatClampNeg = 12 := by decide
  have k0 : (0 : Int32).toNatClampNeg = 0 := by decide
  unfold fX11_many at e1
  obtain ⟨s1, c1, e1⟩ := p_bnd1 e1
  obtain ⟨i1, -, mc1, -, ov1, -, f1⟩ := ok_at (j_solve hI hJ) c1
  have F1 : FEq s1 (sm 1) := FEq_cg hF.1 (fun k hk => f1 k (by unfold flq at hk; omega))
  unfold fX12_many at e2
  obtain ⟨s2, l2, c2, e2⟩ := p_bnd2 e2
  have R := ok_at (x_law hM.2.2) c2
  have z := law0 i1.1 F1 mc1 ov1 (ns_wt F1 hN) R
  replace e2 : gin (12 : Int32) 53248 (some ((l2 5 (12 : Int32).toNatClampNeg), s2, l2)) = some (r', sm', lm') := e2
  replace e2 := p_gin e2
  rw [kc] at e2
  cases e2
  obtain ⟨y4, s5, c5, e1⟩ := p_bnd2 e1
  cases e1
  unfold fX9_howMany at c5
  replace c5 := p_gin c5
  rw [k0] at c5
  cases c5
  refine Int64.toInt_inj.mp ?_
  rw [Int32.toInt_toInt64]
  exact z.2.1.symm
/-! what is kept between the calls -/
def KJ (sx sm : Sg) (lm : Lg) : Prop := JC sx ∧ NSH sm
theorem KJF : KF KJ := fun _ _ _ _ _ hI hJ st same _ _ nn => ⟨JC_flock hI hJ.1 st same, nn hJ.2⟩
theorem jc0 : JC sgC0 := by
  have bt0 : ∀ t, t < 12 → ¬ bt 0 t := by
    unfold bt
    decide +kernel
  have z6 : Z6 sgC0 := ⟨fun _ _ => ⟨rfl, rfl⟩, rfl, rfl, rfl, rfl⟩
  have e0 : (sgC0 3 2).toInt.toNat = 0 := by decide
  have one : ∀ x, x < 2 ^ min 0 6 → x = 0 := fun x hx => by
    have : (2 : Nat) ^ min 0 6 = 1 := by decide
    omega
  have one' : ∀ x, x < 2 ^ (0 - 6) → x = 0 := fun x hx => by
    have : (2 : Nat) ^ (0 - 6) = 1 := by decide
    omega
  refine ⟨fun z => absurd z (by decide), ⟨by decide, fun _ => ?_⟩, z6, ⟨by decide, fun _ z => absurd z (by decide)⟩, fun _ z => absurd z (by decide), by decide⟩
  unfold HC HP
  rw [e0]
  refine ⟨fun _ _ => rfl, fun o x ho => absurd ho (Nat.not_lt_zero _), fun o x ho => absurd ho (Nat.not_lt_zero _), fun x t hx ht => ?_, fun x t hx ht => ?_, fun x t hx ht => ?_, fun x t hx ht => ?_, z6⟩
  · rw [one x hx]; exact ⟨fun y => absurd y (bt0 t ht), fun y => absurd y U6_0⟩
  · rw [one' x hx]; exact ⟨fun y => absurd y (bt0 t ht), fun y => absurd y U6_0⟩
  · rw [one x hx]; exact ⟨fun y => absurd y (bt0 t ht), fun y => absurd y U6_0⟩
  · rw [one' x hx]; exact ⟨fun y => absurd y (bt0 t ht), fun y => absurd y U6_0⟩
theorem kj0 : KJ sgC0 sgM0 lg0 := by
  refine ⟨jc0, fun d hd h hh => ?_⟩
  have e : (sgM0 0 2).toInt.toNat = 0 := by decide
  have hd0 : d = 0 := by omega
  subst hd0
  have e2 : (sgM0 1 0).toInt = 0 := by decide
  have hh' : (h : Int) < (sgM0 1 0).toInt := hh
  omega
/-! turn -/
theorem val_turn {sx sm sx' sm' : Sg} {lm lm' : Lg} {r r' : Int64} (e1 : fX11_turn sx = some (r, sx')) (e2 : fX12_turn sm lm = some (r', sm', lm')) : r = r' := by
  have a : r = 0 := by
    unfold fX11_turn at e1
    obtain ⟨s1, c1, h⟩ := p_bnd1 e1
    cases h; rfl
  have b : r' = 0 := by
    unfold fX12_turn LX12_turn_2 at e2
    refine loop_ind (fun rec z => fX12_turn_2 rec z.1 z.2.1 z.2.2) (y := (r', sm', lm')) (P := fun z => r' = 0) (fun rec hrec z h => ?_) _ e2
    unfold fX12_turn_2 at h
    rcases p_ite h with h | h
    · cases h; rfl
    · replace h := p_gin h
      obtain ⟨x3, e3, h⟩ := p_lt h
      obtain ⟨x4, e4, h⟩ := p_lt h
      replace h := p_gin h
      obtain ⟨x6, e6, h⟩ := p_lt h
      replace h := p_gin h
      obtain ⟨s8, e8, h⟩ := p_lt h
      replace h := p_gin h
      obtain ⟨s10, e10, h⟩ := p_lt h
      obtain ⟨x11, e11, h⟩ := p_lt h
      exact hrec _ h
  rw [a, b]
/-! those that are next in some best order -/
def LN (sg : Sg) : Prop := ((2 ^ (sg 3 2).toInt.toNat : Nat) : Int) ≤ (sg 99 63).toInt ∧ ((2 ^ (sg 3 2).toInt.toNat : Nat) : Int) ≤ (sg 99 64).toInt
def BQ (sg : Sg) (x j : Nat) : Prop := CH sg x j ∧ rval sg x j = rr sg x
theorem isIn_is {v0 v1 : Int32} {sg : Sg} : fX11_isIn v0 v1 sg = some (if ((v0 >>> (v1 &&& 31)) &&& (1 : Int32)) = (1 : Int32) then 1 else 0, sg) := by
  unfold fX11_isIn
  split <;> rfl
theorem rr_bd {sg : Sg} (hO : OV sg) (hI : IC0 sg) {y : Nat} (hy : y < 2 ^ (sg 3 2).toInt.toNat) : 0 ≤ rr sg y ∧ rr sg y ≤ 1000000000 ∧ 0 ≤ ws sg y ∧ ws sg y ≤ 479001600 := by
  have b := (hO y (by omega) hy).1
  have n12 := rdC3_2 hI
  have zl := zc_le y (sg 3 2).toInt.toNat
  have f := fc_mono (show zc y (sg 3 2).toInt.toNat ≤ 12 by omega)
  rw [fc12] at f
  obtain ⟨b1, b2, b3, b4⟩ := b
  omega
set_option maxHeartbeats 4000000 in
theorem bestc_is {sg : Sg} {a : Int32} (hI : IC0 sg) (hH : HC sg) (hO : OV sg) (hl : LN sg) (a0 : 0 ≤ a.toInt) (a1 : a.toInt.toNat < 2 ^ (sg 3 2).toInt.toNat) : ∃ O, fX9_bestChoices a sg = some (O, sg) ∧ 0 ≤ O.toInt ∧ O.toInt ≤ 4095 ∧ ∀ j, O.toInt.toNat.testBit j = true ↔ BQ sg a.toInt.toNat j := by
  have k0 : (0 : Int32).toInt = 0 := by decide
  have k1 : (1 : Int32).toInt = 1 := by decide
  have hn := rdC3_2 hI
  have x4 := lt4096 a1 (by omega)
  have w4 := rdC99_63 hI
  obtain ⟨C, f1, f2, f3, f4⟩ := choices_is hI hH a0 a1
  have hc := cl_i a0
  have ra := rr_bd hO hI a1
  have key : Ok (fun q => q.2 = sg ∧ 0 ≤ q.1.toInt ∧ q.1.toInt ≤ 4095 ∧ ∀ j, q.1.toInt.toNat.testBit j = true ↔ BQ sg a.toInt.toNat j) (fX9_bestChoices a sg) := by
    unfold fX9_bestChoices
    refine bnd2_of f1 ?_
    unfold LX9_bestChoices_11
    refine ok_loop (I := fun (q : Int32 × Int32 × Int32 × Int32 × Sg) => q.1 = a ∧ q.2.1 = C ∧ q.2.2.2.2 = sg ∧ 0 ≤ q.2.2.2.1.toInt ∧ q.2.2.2.1.toInt ≤ (sg 3 2).toInt ∧ 0 ≤ q.2.2.1.toInt ∧ q.2.2.1.toInt ≤ 4095 ∧ ∀ j, q.2.2.1.toInt.toNat.testBit j = true ↔ (j < q.2.2.2.1.toInt.toNat ∧ BQ sg a.toInt.toNat j)) (m := fun (q : Int32 × Int32 × Int32 × Int32 × Sg) => (13 - q.2.2.2.1.toInt).toNat) _ ?_ ?_ _ ?_
    · intro q hq
      have := hq.2.2.2.1
      show (13 - q.2.2.2.1.toInt).toNat < 10000
      omega
    · intro rec q hq hrec
      obtain ⟨p1, p2, v3, v4, s⟩ := q
      replace hq : p1 = a ∧ p2 = C ∧ s = sg ∧ 0 ≤ v4.toInt ∧ v4.toInt ≤ (sg 3 2).toInt ∧ 0 ≤ v3.toInt ∧ v3.toInt ≤ 4095 ∧ ∀ j, v3.toInt.toNat.testBit j = true ↔ (j < v4.toInt.toNat ∧ BQ sg a.toInt.toNat j) := hq
      obtain ⟨e1, e2, e3, q0, q1, q2, q3, q4⟩ := hq
      subst e1 e2 e3
      show Ok _ (fX9_bestChoices_11 rec p1 p2 v3 v4 s)
      unfold fX9_bestChoices_11
      have fin : (∀ j, p2.toInt.toNat.testBit j = true → j < v4.toInt.toNat) → Ok (fun (q : Int32 × Sg) => q.2 = s ∧ 0 ≤ q.1.toInt ∧ q.1.toInt ≤ 4095 ∧ ∀ j, q.1.toInt.toNat.testBit j = true ↔ BQ s p1.toInt.toNat j) (some (v3, s)) := by
        intro hall
        refine ok_some ⟨rfl, q2, q3, fun j => ?_⟩
        show v3.toInt.toNat.testBit j = true ↔ _
        rw [q4 j]
        exact ⟨fun z => z.2, fun z => ⟨hall j ((f4 j).mpr z.1), z⟩⟩
      have go : ∀ w : Int32, v4.toInt < (s 3 2).toInt → 0 ≤ w.toInt → w.toInt ≤ 4095 → (∀ j, w.toInt.toNat.testBit j = true ↔ (j < v4.toInt.toNat + 1 ∧ BQ s p1.toInt.toNat j)) → Ok (fun (q : Int32 × Sg) => q.2 = s ∧ 0 ≤ q.1.toInt ∧ q.1.toInt ≤ 4095 ∧ ∀ j, q.1.toInt.toNat.testBit j = true ↔ BQ s p1.toInt.toNat j) (fX9_bestChoices_77 rec p1 p2 w v4 s) := by
        intro w g0 g1 g2 g3
        unfold fX9_bestChoices_77
        refine ok_lt (fun y1 f1 => ?_)
        replace f1 : y1.toInt = v4.toInt + 1 := by rw [f1]; exact add_c 1 k1 (by omega) (by omega)
        have ey : y1.toInt.toNat = v4.toInt.toNat + 1 := by omega
        refine hrec (p1, p2, w, y1, s) ⟨rfl, rfl, rfl, by show 0 ≤ y1.toInt; omega, by show y1.toInt ≤ (s 3 2).toInt; omega, g1, g2, ?_⟩ (show (13 - y1.toInt).toNat < (13 - v4.toInt).toNat by omega)
        show ∀ j, w.toInt.toNat.testBit j = true ↔ (j < y1.toInt.toNat ∧ _)
        rw [ey]; exact g3
      have same : ¬ BQ s p1.toInt.toNat v4.toInt.toNat → ∀ j, v3.toInt.toNat.testBit j = true ↔ (j < v4.toInt.toNat + 1 ∧ BQ s p1.toInt.toNat j) := by
        intro nb j
        rw [q4 j]
        constructor
        · rintro ⟨z1, z2⟩
          exact ⟨by omega, z2⟩
        · rintro ⟨z1, z2⟩
          by_cases w : j = v4.toInt.toNat
          · rw [w] at z2; exact absurd z2 nb
          · exact ⟨by omega, z2⟩
      refine ok_ite (fun c => ?_) (fun c => ?_)
      · replace c := i_le.mp c
        exact fin (fun j hj => by have := ((f4 j).mp hj).1; omega)
      · replace c := i_nle.mp c
        refine ok_ite (fun d => ?_) (fun d => ?_)
        · refine fin (fun j hj => ?_)
          refine Decidable.byContradiction fun z => ?_
          have sh := shr_is (a := p2) (v := v4) q0 (by omega)
          rw [d, k0] at sh
          have pos : 0 < 2 ^ v4.toInt.toNat := Nat.pow_pos (by decide)
          have lt : p2.toInt.toNat < 2 ^ v4.toInt.toNat := by
            refine Decidable.byContradiction fun y => ?_
            have h1 : ((2 ^ v4.toInt.toNat : Nat) : Int) ≤ p2.toInt := by omega
            have h2 := Int.le_ediv_of_mul_le (a := 1) (b := p2.toInt) (c := ((2 ^ v4.toInt.toNat : Nat) : Int)) (by omega) (by omega)
            omega
          rw [tb_hi lt (by omega)] at hj
          cases hj
        · refine bnd2_of isIn_is ?_
          by_cases f : ((p2 >>> (v4 &&& 31)) &&& (1 : Int32)) = (1 : Int32)
          · rw [if_pos f, ite1]
            have bj := (bit_n f2 q0 (by omega)).mp f
            have ch := (f4 _).mp bj
            have jn : v4.toInt.toNat < (s 3 2).toInt.toNat := ch.1
            have tn := tset_n (set := p1) (h := v4) a0 (by omega) q0 (by omega)
            have ti := tset_i (set := p1) (h := v4) a0 (by omega) q0 (by omega)
            have ol := or_lt a1 jn
            have rb := rr_bd hO hI ol
            have cb := cs_bd hI v4.toInt.toNat p1.toInt.toNat
            have hl1 := hl.1
            refine ok_ginL (by omega) (by omega) ?_
            refine ok_lt (fun x9 e9 => ?_)
            rw [← e9] at tn ti
            have hc9 := cl_i ti.1
            refine ok_ginL (by omega) (by omega) ?_
            obtain ⟨y11, cost, ecs⟩ := hcost_is (a := p1) (v := v4) hI hH a0 a1 q0 c
            refine bnd2_of cost ?_
            have hr1 : (s 63 p1.toNatClampNeg).toInt = rr s p1.toInt.toNat := by unfold rr; rw [show p1.toNatClampNeg = p1.toInt.toNat by omega]
            have hr2 : (s 63 x9.toNatClampNeg).toInt = rr s (p1.toInt.toNat ||| 2 ^ v4.toInt.toNat) := by unfold rr; rw [← tn, show x9.toNatClampNeg = x9.toInt.toNat by omega]
            have ev : (s 63 x9.toNatClampNeg + y11).toInt = rval s p1.toInt.toNat v4.toInt.toNat := by
              rw [add_i (by omega) (by omega), hr2, ecs]
              rfl
            refine ok_ite (fun g => ?_) (fun g => ?_)
            · replace g := i_eq.mp g
              rw [hr1, ev] at g
              have bq : BQ s p1.toInt.toNat v4.toInt.toNat := ⟨ch, g.symm⟩
              refine ok_lt (fun x15 e15 => ?_)
              have tn3 := tset_n (set := v3) (h := v4) q2 q3 q0 (by omega)
              have ti3 := tset_i (set := v3) (h := v4) q2 q3 q0 (by omega)
              rw [← e15] at tn3 ti3
              refine go x15 c ti3.1 ti3.2 (fun j => ?_)
              rw [tn3, tb_or, Bool.or_eq_true, q4 j, decide_eq_true_eq]
              constructor
              · rintro (z | z)
                · exact ⟨by omega, z.2⟩
                · subst z; exact ⟨by omega, bq⟩
              · rintro ⟨z1, z2⟩
                by_cases w : v4.toInt.toNat = j
                · exact Or.inr w
                · exact Or.inl ⟨by omega, z2⟩
            · replace g := i_ne.mp g
              rw [hr1, ev] at g
              exact go v3 c q2 q3 (same (fun z => g z.2.symm))
          · rw [if_neg f, ite0]
            exact go v3 c q2 q3 (same (fun z => f ((bit_n f2 q0 (by omega)).mpr ((f4 _).mpr z.1))))
    · refine ⟨rfl, rfl, rfl, by show 0 ≤ (0 : Int32).toInt; omega, by show (0 : Int32).toInt ≤ (sg 3 2).toInt; omega, by show 0 ≤ (0 : Int32).toInt; omega, by show (0 : Int32).toInt ≤ 4095; omega, fun j => ?_⟩
      show (0 : Int32).toInt.toNat.testBit j = true ↔ (j < (0 : Int32).toInt.toNat ∧ _)
      rw [k0]
      show Nat.testBit 0 j = true ↔ (j < 0 ∧ _)
      rw [Nat.zero_testBit]
      exact ⟨fun z => absurd z (by decide), fun z => absurd z.1 (Nat.not_lt_zero _)⟩
  obtain ⟨⟨O, s⟩, e, g1, g2, g3, g4⟩ := key
  have es : s = sg := g1
  subst es
  exact ⟨O, e, g2, g3, g4⟩
/-! bringInHand: the k-th best order -/
theorem zc_or {x s : Nat} (h : x.testBit s = false) : ∀ n, zc (x ||| 2 ^ s) n + (if s < n then 1 else 0) = zc x n
  | 0 => rfl
  | n + 1 => by
    have ih := zc_or h n
    have e1 : zc (x ||| 2 ^ s) (n + 1) = zc (x ||| 2 ^ s) n + (if (!(x ||| 2 ^ s).testBit n) = true then 1 else 0) := rfl
    have e2 : zc x (n + 1) = zc x n + (if (!x.testBit n) = true then 1 else 0) := rfl
    rw [e1, e2, tb_or]
    by_cases w : s = n
    · subst w
      rw [if_neg (Nat.lt_irrefl _)] at ih
      rw [h, decide_eq_true rfl, if_pos (show s < s + 1 by omega)]
      simp
      omega
    · rw [decide_eq_false w, Bool.or_false]
      by_cases c : s < n
      · rw [if_pos c] at ih
        rw [if_pos (show s < n + 1 by omega)]
        omega
      · rw [if_neg c] at ih
        rw [if_neg (show ¬ s < n + 1 by omega)]
        omega
theorem zc_0 {x n : Nat} (hx : x < 2 ^ n) (h : zc x n = 0) : x = 2 ^ n - 1 := by
  refine Decidable.byContradiction fun z => ?_
  obtain ⟨j, j1, j2⟩ := ex_left hx z
  have := zc_lt j1 j2
  omega
theorem zc_all {n : Nat} : zc (2 ^ n - 1) n = 0 := by
  refine Decidable.byContradiction fun z => ?_
  have key : ∀ m, m ≤ n → zc (2 ^ n - 1) m = 0 := by
    intro m
    induction m with
    | zero => intro _; rfl
    | succ m ih =>
      intro h
      have e : zc (2 ^ n - 1) (m + 1) = zc (2 ^ n - 1) m + (if (!(2 ^ n - 1).testBit m) = true then 1 else 0) := rfl
      rw [e, ih (by omega), tb_all, decide_eq_true (by omega)]
      rfl
  exact z (key n (Nat.le_refl _))
/-- partial sums of ways -/
noncomputable def PW (sg : Sg) (x m : Nat) : Int := SF (BQ sg x) (fun j => ws sg (x ||| 2 ^ j)) m
theorem PW_all {sg : Sg} {x : Nat} (hO : OV sg) (hx : x < 2 ^ (sg 3 2).toInt.toNat) (hne : x ≠ 2 ^ (sg 3 2).toInt.toNat - 1) (n12 : (sg 3 2).toInt.toNat ≤ 12) : PW sg x (sg 3 2).toInt.toNat = ws sg x := by
  obtain ⟨-, -, -, o4⟩ := (hO x (by omega) hx).2.2 hne
  rw [o4]
  have e := SF_ext (q := BQ sg x) (v := fun j => ws sg (x ||| 2 ^ j)) (n := (sg 3 2).toInt.toNat) (fun j hj hq => by have := hq.1.1; omega) (12 - (sg 3 2).toInt.toNat)
  rw [show (sg 3 2).toInt.toNat + (12 - (sg 3 2).toInt.toNat) = 12 by omega] at e
  exact e.symm
/-- the slots of the k-th best order of those that are left -/
def BO (sg : Sg) : List Nat → Nat → Int → Prop
  | [], x, _ => x = 2 ^ (sg 3 2).toInt.toNat - 1
  | s :: l, x, k => (x < 2 ^ (sg 3 2).toInt.toNat ∧ x ≠ 2 ^ (sg 3 2).toInt.toNat - 1 ∧ BQ sg x s ∧ PW sg x s ≤ k ∧ k < PW sg x (s + 1)) ∧ BO sg l (x ||| 2 ^ s) (k - PW sg x s)
theorem append_is {v : Int32} {sg : Sg} (h0 : 0 ≤ (sg 5 0).toInt) (h1 : (sg 5 0).toInt ≤ 11) : ∃ r, fX5_append v sg = some r ∧ (r 5 0).toInt = (sg 5 0).toInt + 1 ∧ (∀ i, r 31 i = if i = (sg 5 0).toInt.toNat then v else sg 31 i) ∧ (∀ c, c ≠ 5 → c ≠ 31 → r c = sg c) ∧ ∀ j, j ≠ 0 → r 5 j = sg 5 j := by
  have k12 : (12 : Int32).toInt = 12 := by decide
  have hc := cl_i h0
  have e5 : up2 sg 31 (sg 5 0).toNatClampNeg v 5 0 = sg 5 0 := by rw [up2_n (by decide)]
  have f := add_c (a := sg 5 0) (b := (1 : Int32)) 1 (by decide) (by omega) (by omega)
  refine ⟨up2 (up2 sg 31 (sg 5 0).toNatClampNeg v) 5 0 (sg 5 0 + 1), ?_, ?_, fun i => ?_, fun c a b => ?_, fun j hj => ?_⟩
  · unfold fX5_append
    rw [if_neg (by rw [i_le]; omega), gin_in (vin_i (by omega) (by omega))]
    show some (up2 (up2 sg 31 (sg 5 0).toNatClampNeg v) 5 0 ((up2 sg 31 (sg 5 0).toNatClampNeg v 5 0) + 1)) = _
    rw [e5]
  · rw [up2_e]; exact f
  · rw [up2_n (by decide), up2_is, show (sg 5 0).toNatClampNeg = (sg 5 0).toInt.toNat by omega]
    by_cases w : i = (sg 5 0).toInt.toNat
    · rw [if_pos ⟨rfl, w⟩, if_pos w]
    · rw [if_neg (fun z => w z.2), if_neg w]
  · rw [up2_n a, up2_n b]
  · rw [up2_o (Or.inr hj), up2_n (by decide)]
/-- what bringInHand's choice of a place knows -/
def CQ (sg : Sg) (x : Nat) (k : Int) (v4 : Int64) (v9 : Int32) (m : Nat) : Prop := (v9 = -1 ∧ PW sg x m ≤ k ∧ v4.toInt = k - PW sg x m) ∨ ∃ s, s < 12 ∧ v9 = Int32.ofNat s ∧ BQ sg x s ∧ PW sg x s ≤ k ∧ k < PW sg x (s + 1) ∧ v4.toInt = k - PW sg x s
set_option maxHeartbeats 4000000 in
theorem b_40 {sg : Sg} {s0 : Sg} {P : Sg → Prop} {r14 : (Int64 × Int32 × Int32 × Sg) → Option Sg} {v4 : Int64} {v6 v7 v8 : Int32} (hI : IC0 sg) (hO : OV sg) (hl : LN sg) (sm : ∀ c, c ≠ 5 → c ≠ 31 → s0 c = sg c) (h50 : 0 ≤ (s0 5 0).toInt) (h51 : (s0 5 0).toInt ≤ 11) (a0 : 0 ≤ v6.toInt) (a1 : v6.toInt.toNat < 2 ^ (sg 3 2).toInt.toNat) (ane : v6.toInt.toNat ≠ 2 ^ (sg 3 2).toInt.toNat - 1) (k0' : 0 ≤ v4.toInt) (k1' : v4.toInt < ws sg v6.toInt.toNat) (p0 : 0 ≤ v7.toInt) (p1 : v7.toInt ≤ 11) (o0 : 0 ≤ v8.toInt) (o1 : v8.toInt ≤ 4095) (ob : ∀ j, v8.toInt.toNat.testBit j = true ↔ BQ sg v6.toInt.toNat j)
    (hr : ∀ (s : Nat) (k' : Int64) (x' p' : Int32) (r : Sg), s < (sg 3 2).toInt.toNat → BQ sg v6.toInt.toNat s → PW sg v6.toInt.toNat s ≤ v4.toInt → v4.toInt < PW sg v6.toInt.toNat (s + 1) → k'.toInt = v4.toInt - PW sg v6.toInt.toNat s → 0 ≤ x'.toInt → x'.toInt.toNat = v6.toInt.toNat ||| 2 ^ s → p'.toInt = v7.toInt + 1 → (r 5 0).toInt = (s0 5 0).toInt + 1 → (∀ i, r 31 i = if i = (s0 5 0).toInt.toNat then sg 17 s else s0 31 i) → (∀ c, c ≠ 5 → c ≠ 31 → r c = sg c) → Ok P (r14 (k', x', p', r))) : Ok P (LX9_bringInHand_40 r14 (v4, v6, v7, v8, (-1 : Int32), (0 : Int32), s0)) := by
  have k0 : (0 : Int32).toInt = 0 := by decide
  have k1 : (1 : Int32).toInt = 1 := by decide
  have km : (-1 : Int32).toInt = -1 := by decide
  have hn := rdC3_2 hI
  have x4 := lt4096 a1 (by omega)
  have w4 := rdC99_64 hI
  have pall := PW_all hO a1 ane (by omega)
  obtain ⟨x, ex⟩ : ∃ x, x = v6.toInt.toNat := ⟨_, rfl⟩
  rw [← ex] at a1 ane k1' ob hr x4 pall
  have e3 : s0 3 2 = sg 3 2 := by rw [sm 3 (by decide) (by decide)]
  have e99 : s0 99 64 = sg 99 64 := by rw [sm 99 (by decide) (by decide)]
  have e64 : s0 64 = sg 64 := sm 64 (by decide) (by decide)
  have wsb : ws sg x ≤ 479001600 := (rr_bd hO hI a1).2.2.2
  unfold LX9_bringInHand_40
  refine ok_loop (I := fun (q : Int64 × Int32 × Int32 × Int32 × Int32 × Int32 × Sg) => q.2.1 = v6 ∧ q.2.2.1 = v7 ∧ q.2.2.2.1 = v8 ∧ q.2.2.2.2.2.2 = s0 ∧ 0 ≤ q.2.2.2.2.2.1.toInt ∧ q.2.2.2.2.2.1.toInt ≤ (sg 3 2).toInt ∧ CQ sg x v4.toInt q.1 q.2.2.2.2.1 q.2.2.2.2.2.1.toInt.toNat) (m := fun (q : Int64 × Int32 × Int32 × Int32 × Int32 × Int32 × Sg) => (13 - q.2.2.2.2.2.1.toInt).toNat) _ ?_ ?_ _ ?_
  · intro q hq
    have := hq.2.2.2.2.1
    show (13 - q.2.2.2.2.2.1.toInt).toNat < 10000
    omega
  · intro rec q hq hrec
    obtain ⟨k, q6, q7, q8, v9, v10, s⟩ := q
    replace hq : q6 = v6 ∧ q7 = v7 ∧ q8 = v8 ∧ s = s0 ∧ 0 ≤ v10.toInt ∧ v10.toInt ≤ (sg 3 2).toInt ∧ CQ sg x v4.toInt k v9 v10.toInt.toNat := hq
    obtain ⟨e1, e2, e4, e5, q0, q1, cq⟩ := hq
    subst e1 e2 e4 e5
    show Ok P (fX9_bringInHand_40 r14 rec k q6 q7 q8 v9 v10 s)
    unfold fX9_bringInHand_40
    -- a slot is chosen
    have take : ∀ t, t < 12 → v9 = Int32.ofNat t → BQ sg x t → PW sg x t ≤ v4.toInt → v4.toInt < PW sg x (t + 1) → k.toInt = v4.toInt - PW sg x t → Ok P (fX9_bringInHand_112 r14 k q6 q7 v9 s) := by
      intro t t1 t2 t3 t4 t5 t6
      have ot := ofn_n t1
      have tn' : t < (sg 3 2).toInt.toNat := t3.1.1
      unfold fX9_bringInHand_112
      rw [if_neg (fun z => by rw [t2] at z; have := congrArg Int32.toInt z; omega)]
      have hc9 := cl_i (i := v9) (by rw [t2, ot]; omega)
      rw [t2, ot] at hc9
      refine ok_gin (by rw [t2]; omega) (by rw [t2]; omega) ?_
      obtain ⟨r, er, r1, r2, r3, -⟩ := append_is (v := s 17 v9.toNatClampNeg) h50 h51
      refine ok_bnd1 (Q := fun a => a = r) ⟨r, er, rfl⟩ (fun r' er' => ?_)
      subst er'
      refine ok_lt (fun x5 e5 => ?_)
      refine ok_lt (fun x6 e6 => ?_)
      replace e6 : x6.toInt = q7.toInt + 1 := by rw [e6]; exact add_c 1 k1 (by omega) (by omega)
      have tn := tset_n (set := q6) (h := v9) a0 (by omega) (by rw [t2]; omega) (by rw [t2]; omega)
      have ti := tset_i (set := q6) (h := v9) a0 (by omega) (by rw [t2]; omega) (by rw [t2]; omega)
      rw [← e5] at tn ti
      have e9 : v9.toInt.toNat = t := by rw [t2, ot]; rfl
      rw [e9, ← ex] at tn
      refine hr t k x5 x6 r' tn' t3 t4 t5 t6 ti.1 tn e6 r1 (fun i => ?_) (fun c a b => by rw [r3 c a b]; exact sm c a b)
      rw [r2 i, sm 17 (by decide) (by decide), show v9.toNatClampNeg = t by rw [t2]; omega]
    have go : ∀ (k' : Int64) (v9' : Int32), v10.toInt < (sg 3 2).toInt → CQ sg x v4.toInt k' v9' (v10.toInt.toNat + 1) → Ok P (fX9_bringInHand_106 r14 rec k' q6 q7 q8 v9' v10 s) := by
      intro k' v9' g0 g1
      unfold fX9_bringInHand_106
      refine ok_lt (fun y1 f1 => ?_)
      replace f1 : y1.toInt = v10.toInt + 1 := by rw [f1]; exact add_c 1 k1 (by omega) (by omega)
      have ey : y1.toInt.toNat = v10.toInt.toNat + 1 := by omega
      refine hrec (k', q6, q7, q8, v9', y1, s) ⟨rfl, rfl, rfl, rfl, by show 0 ≤ y1.toInt; omega, by show y1.toInt ≤ (sg 3 2).toInt; omega, ?_⟩ (show (13 - y1.toInt).toNat < (13 - v10.toInt).toNat by omega)
      show CQ sg x v4.toInt k' v9' y1.toInt.toNat
      rw [ey]; exact g1
    rw [e3]
    refine ok_ite (fun c => ?_) (fun c => ?_)
    · replace c := i_le.mp c
      rcases cq with ⟨z1, z2, z3⟩ | ⟨t, t1, t2, t3, t4, t5, t6⟩
      · have : v10.toInt.toNat = (sg 3 2).toInt.toNat := by omega
        rw [this, pall] at z2
        omega
      · exact take t t1 t2 t3 t4 t5 t6
    · replace c := i_nle.mp c
      refine ok_ite (fun d => ?_) (fun d => ?_)
      · -- none yet
        rcases cq with ⟨z1, z2, z3⟩ | ⟨t, t1, t2, -⟩
        · refine bnd2_of isIn_is ?_
          have v10n : v10.toInt.toNat < (sg 3 2).toInt.toNat := by omega
          by_cases f : ((q8 >>> (v10 &&& 31)) &&& (1 : Int32)) = (1 : Int32)
          · rw [if_pos f, ite1]
            have bq := (ob _).mp ((bit_n o0 q0 (by omega)).mp f)
            have pp : PW sg x (v10.toInt.toNat + 1) = PW sg x v10.toInt.toNat + ws sg (x ||| 2 ^ v10.toInt.toNat) := SF_p bq
            have tn := tset_n (set := q6) (h := v10) a0 (by omega) q0 (by omega)
            have ti := tset_i (set := q6) (h := v10) a0 (by omega) q0 (by omega)
            rw [← ex] at tn
            have ol := or_lt a1 bq.1.1
            have wb := rr_bd hO hI ol
            refine ok_lt (fun x8 e8 => ?_)
            rw [← e8] at tn ti
            have hc8 := cl_i ti.1
            have hl2 := hl.2
            rw [e99]
            refine ok_ginL (by omega) (by omega) ?_
            refine ok_lt (fun x10 e10 => ?_)
            have hw : (x10.toInt64).toInt = ws sg (x ||| 2 ^ v10.toInt.toNat) := by
              rw [Int32.toInt_toInt64, e10, e64]
              unfold ws
              rw [← tn, show x8.toNatClampNeg = x8.toInt.toNat by omega]
            refine ok_ite (fun g => ?_) (fun g => ?_)
            · replace g := j_le.mp g
              refine ok_lt (fun x12 e12 => ?_)
              have kb : k.toInt < 9223372036854775808 := k.toInt_lt
              have e12' : x12.toInt = k.toInt - ws sg (x ||| 2 ^ v10.toInt.toNat) := by rw [e12, sub64b (by omega) (by omega), hw]
              exact go x12 v9 c (Or.inl ⟨z1, by omega, by omega⟩)
            · replace g := j_nle.mp g
              refine go k v10 c (Or.inr ⟨v10.toInt.toNat, by omega, of_i q0, bq, z2, by omega, z3⟩)
          · rw [if_neg f, ite0]
            have nb : ¬ BQ sg x v10.toInt.toNat := fun z => f ((bit_n o0 q0 (by omega)).mpr ((ob _).mpr z))
            have pp : PW sg x (v10.toInt.toNat + 1) = PW sg x v10.toInt.toNat := SF_n nb
            exact go k v9 c (Or.inl ⟨z1, by omega, by omega⟩)
        · rw [t2] at d
          have ot := ofn_n t1
          have := congrArg Int32.toInt d
          omega
      · rcases cq with ⟨z1, -⟩ | ⟨t, t1, t2, t3, t4, t5, t6⟩
        · exact absurd z1 d
        · exact take t t1 t2 t3 t4 t5 t6
  · refine ⟨rfl, rfl, rfl, rfl, by show 0 ≤ (0 : Int32).toInt; omega, by show (0 : Int32).toInt ≤ (sg 3 2).toInt; omega, Or.inl ⟨rfl, ?_, ?_⟩⟩
    · show PW sg x (0 : Int32).toInt.toNat ≤ v4.toInt
      rw [k0]
      exact k0'
    · show v4.toInt = v4.toInt - PW sg x (0 : Int32).toInt.toNat
      rw [k0]
      show v4.toInt = v4.toInt - 0
      omega
/-- so far the places of l0 are in hand, and what is left goes on -/
def BI (sg : Sg) (k : Int) (s : Sg) (x : Nat) (skip : Int) (p : Nat) : Prop := ∃ l0 : List Nat, l0.length = p ∧ (∀ l, BO sg l x skip → BO sg (l0 ++ l) 0 k) ∧ ∀ i, i < p → s 31 i = sg 17 (l0.getD i 0)
/-- the k-th best order is in hand -/
def BH (sg : Sg) (k : Int) (r : Sg) : Prop := (∃ l : List Nat, BO sg l 0 k ∧ l.length = (sg 3 2).toInt.toNat ∧ ∀ i, i < l.length → r 31 i = sg 17 (l.getD i 0)) ∧ (r 5 0).toInt = (sg 3 2).toInt ∧ ∀ c, c ≠ 5 → c ≠ 31 → r c = sg c
theorem getD_l {m : List Nat} {d : Nat} : ∀ (l : List Nat) (i : Nat), i < l.length → (l ++ m).getD i d = l.getD i d
  | [], i, h => absurd h (Nat.not_lt_zero _)
  | a :: l, 0, _ => rfl
  | a :: l, i + 1, h => getD_l l i (by simpa using h)
theorem getD_r {x d : Nat} : ∀ (l : List Nat), (l ++ [x]).getD l.length d = x
  | [] => rfl
  | a :: l => getD_r l
theorem ic_hand {C r : Sg} (h : IC0 C) (e : ∀ c, c ≠ 5 → c ≠ 31 → r c = C c) (h5 : 0 ≤ (r 5 0).toInt ∧ (r 5 0).toInt ≤ 12) (h31 : ∀ i, 0 ≤ (r 31 i).toInt ∧ (r 31 i).toInt ≤ 11) : IC0 r := by
  refine ⟨fun k j => ?_, fun k j hk => by rw [e k (by omega) (by omega)]; exact h.2 k j hk⟩
  by_cases c : k = 5
  · subst c
    by_cases d : j = 0
    · subst d; exact h5
    · have e5 : tbC 5 j = (-2147483648, 2147483647) := by
        show (if j = 0 then _ else _) = _
        rw [if_neg d]
      rw [e5]; exact ⟨lo32 _, hi32 _⟩
  · by_cases d : k = 31
    · subst d; exact h31 j
    · rw [e k c d]; exact h.1 k j
set_option maxHeartbeats 4000000 in
theorem b_bring {sg : Sg} {k : Int64} (hI : IC0 sg) (hH : HC sg) (hO : OV sg) (hl : LN sg) (k0' : 0 ≤ k.toInt) (k1' : k.toInt < ws sg 0) : Ok (BH sg k.toInt) (fX9_bringInHand k sg) := by
  have k0 : (0 : Int32).toInt = 0 := by decide
  have hn := rdC3_2 hI
  have pp : 0 < 2 ^ (sg 3 2).toInt.toNat := Nat.pow_pos (by decide)
  obtain ⟨n, en⟩ : ∃ n, n = (sg 3 2).toInt.toNat := ⟨_, rfl⟩
  unfold fX9_bringInHand
  refine ok_lt (fun s1 e1 => ?_)
  have f1 : ∀ c, c ≠ 5 → s1 c = sg c := fun c hc => by rw [e1, up2_n hc]
  unfold LX9_bringInHand_14
  refine ok_loop (I := fun (q : Int64 × Int32 × Int32 × Sg) => IC0 q.2.2.2 ∧ 0 ≤ q.2.1.toInt ∧ q.2.1.toInt.toNat < 2 ^ n ∧ 0 ≤ q.2.2.1.toInt ∧ (zc q.2.1.toInt.toNat n : Int) + q.2.2.1.toInt = (n : Int) ∧ 0 ≤ q.1.toInt ∧ q.1.toInt < ws sg q.2.1.toInt.toNat ∧ (q.2.2.2 5 0).toInt = q.2.2.1.toInt ∧ (∀ c, c ≠ 5 → c ≠ 31 → q.2.2.2 c = sg c) ∧ BI sg k.toInt q.2.2.2 q.2.1.toInt.toNat q.1.toInt q.2.2.1.toInt.toNat) (m := fun (q : Int64 × Int32 × Int32 × Sg) => (13 - q.2.2.1.toInt).toNat) _ ?_ ?_ _ ?_
  · intro q hq
    have := hq.2.2.2.1
    show (13 - q.2.2.1.toInt).toNat < 10000
    omega
  · intro rec q hq hrec
    obtain ⟨v4, v6, v7, s⟩ := q
    replace hq : IC0 s ∧ 0 ≤ v6.toInt ∧ v6.toInt.toNat < 2 ^ n ∧ 0 ≤ v7.toInt ∧ (zc v6.toInt.toNat n : Int) + v7.toInt = (n : Int) ∧ 0 ≤ v4.toInt ∧ v4.toInt < ws sg v6.toInt.toNat ∧ (s 5 0).toInt = v7.toInt ∧ (∀ c, c ≠ 5 → c ≠ 31 → s c = sg c) ∧ BI sg k.toInt s v6.toInt.toNat v4.toInt v7.toInt.toNat := hq
    obtain ⟨is, q0, q1, q2, q3, q4, q5, q6, q7, q8⟩ := hq
    show Ok _ (fX9_bringInHand_14 rec v4 v6 v7 s)
    unfold fX9_bringInHand_14
    have e3 : s 3 2 = sg 3 2 := by rw [q7 3 (by decide) (by decide)]
    rw [e3]
    refine ok_ite (fun c => ?_) (fun c => ?_)
    · replace c := i_le.mp c
      have z0 : zc v6.toInt.toNat n = 0 := by omega
      have ea := zc_0 q1 z0
      obtain ⟨l0, l1, l2, l3⟩ := q8
      have bo : BO sg [] v6.toInt.toNat v4.toInt := by show v6.toInt.toNat = _; rw [ea, en]
      have b := l2 [] bo
      rw [List.append_nil] at b
      refine ok_some ⟨⟨l0, b, by rw [l1]; omega, fun i hi => l3 i (by rw [← l1]; exact hi)⟩, by omega, q7⟩
    · replace c := i_nle.mp c
      have ane : v6.toInt.toNat ≠ 2 ^ (sg 3 2).toInt.toNat - 1 := fun z => by
        have := zc_all (n := n)
        rw [z, ← en] at q3
        omega
      have q1' : v6.toInt.toNat < 2 ^ (sg 3 2).toInt.toNat := by rw [← en]; exact q1
      have hHs : HC s := hc_cg hH e3 (fun c a b d => q7 c (by omega) (by omega))
      have hOs : OV s := OV_cg hO e3 (q7 63 (by decide) (by decide)) (q7 64 (by decide) (by decide)) (fun c a b => q7 c (by omega) (by omega))
      have hls : LN s := by unfold LN; rw [e3, q7 99 (by decide) (by decide)]; exact hl
      obtain ⟨O, o1, o2, o3, o4⟩ := bestc_is (a := v6) is hHs hOs hls q0 (by rw [e3]; exact q1')
      have bqs : ∀ j, BQ s v6.toInt.toNat j ↔ BQ sg v6.toInt.toNat j := fun j => by
        have ev : rval s v6.toInt.toNat j = rval sg v6.toInt.toNat j := by unfold rval rr; rw [q7 63 (by decide) (by decide), cs_cg (q7 23 (by decide) (by decide))]
        have er : rr s v6.toInt.toNat = rr sg v6.toInt.toNat := by unfold rr; rw [q7 63 (by decide) (by decide)]
        unfold BQ
        rw [CH_cg e3 (q7 21 (by decide) (by decide)) (q7 22 (by decide) (by decide)), ev, er]
      refine bnd2_of o1 ?_
      refine b_40 hI hO hl q7 (by omega) (by omega) q0 q1' ane q4 q5 q2 (by omega) o2 o3 (fun j => by rw [o4 j, bqs j]) (fun t k' x' p' r t1 t2 t3 t4 t5 t6 t7 t8 t9 t10 t11 => ?_)
      have pp2 : PW sg v6.toInt.toNat (t + 1) = PW sg v6.toInt.toNat t + ws sg (v6.toInt.toNat ||| 2 ^ t) := SF_p t2
      have zo := zc_or t2.1.2.1 n
      rw [if_pos (show t < n by rw [en]; exact t1)] at zo
      have ir : IC0 r := ic_hand hI t11 (by omega) (fun i => by
        rw [t10 i]
        split
        · exact rdC17 hI
        · exact rdC31 is)
      refine hrec (k', x', p', r) ⟨ir, t6, ?_, by show 0 ≤ p'.toInt; omega, ?_, by show 0 ≤ k'.toInt; omega, ?_, by show (r 5 0).toInt = p'.toInt; omega, t11, ?_⟩ (show (13 - p'.toInt).toNat < (13 - v7.toInt).toNat by omega)
      · show x'.toInt.toNat < 2 ^ n
        rw [t7]
        exact or_lt q1 (by rw [en]; exact t1)
      · show (zc x'.toInt.toNat n : Int) + p'.toInt = (n : Int)
        rw [t7]
        omega
      · show k'.toInt < ws sg x'.toInt.toNat
        rw [t7]
        omega
      · show BI sg k.toInt r x'.toInt.toNat k'.toInt p'.toInt.toNat
        obtain ⟨l0, l1, l2, l3⟩ := q8
        rw [t7, t5]
        refine ⟨l0 ++ [t], by rw [List.length_append, l1]; show v7.toInt.toNat + 1 = _; omega, fun l bo => ?_, fun i hi => ?_⟩
        · rw [List.append_assoc]
          exact l2 (t :: l) ⟨⟨q1', ane, t2, t3, t4⟩, bo⟩
        · rw [t10 i, q6]
          by_cases w : i = v7.toInt.toNat
          · rw [if_pos w, w, ← l1, getD_r]
          · rw [if_neg w, getD_l _ _ (by rw [l1]; omega)]
            exact l3 i (by omega)
  · have kz : (0 : Int32).toInt.toNat = 0 := by decide
    have i1 : IC0 s1 := ic_hand hI (fun c a b => f1 c a) (by rw [e1, up2_e]; decide) (fun i => by rw [f1 31 (by decide)]; exact rdC31 hI)
    refine ⟨i1, by show 0 ≤ (0 : Int32).toInt; omega, ?_, by show 0 ≤ (0 : Int32).toInt; omega, ?_, k0', ?_, ?_, fun c a b => f1 c a, ?_⟩
    · show (0 : Int32).toInt.toNat < 2 ^ n
      rw [kz, en]; exact pp
    · show (zc (0 : Int32).toInt.toNat n : Int) + (0 : Int32).toInt = (n : Int)
      rw [kz, k0]
      have : ∀ m, zc 0 m = m := by
        intro m
        induction m with
        | zero => rfl
        | succ m ih =>
          have e : zc 0 (m + 1) = zc 0 m + (if (!Nat.testBit 0 m) = true then 1 else 0) := rfl
          rw [e, ih, Nat.zero_testBit]
          rfl
      rw [this]
      omega
    · show k.toInt < ws sg (0 : Int32).toInt.toNat
      rw [kz]; exact k1'
    · show (s1 5 0).toInt = (0 : Int32).toInt
      rw [e1, up2_e]
    · show BI sg k.toInt s1 (0 : Int32).toInt.toNat k.toInt (0 : Int32).toInt.toNat
      rw [kz]
      exact ⟨[], rfl, fun l bo => bo, fun i hi => absurd hi (Nat.not_lt_zero _)⟩
/-! the reference's best: the k-th best order -/
def BBn (sg : Sg) (lg : Lg) (X u h : Nat) : Prop := MCn sg h X u ∧ nx sg lg h X < 1000000000000000 ∧ nx sg lg h X = Lv lg X u
noncomputable def RW (sg : Sg) (lg : Lg) (X u m : Nat) : Int := SF (BBn sg lg X u) (fun h => Wv lg (X ||| 2 ^ h) h) m
def RO (sg : Sg) (lg : Lg) (A : Nat) : List Nat → Nat → Nat → Int → Prop
  | [], X, _, _ => X = A
  | h :: l, X, u, k => (¬ X = A ∧ h < 12 ∧ BBn sg lg X u h ∧ RW sg lg X u h ≤ k ∧ k < RW sg lg X u (h + 1)) ∧ RO sg lg A l (X ||| 2 ^ h) h (k - RW sg lg X u h)
theorem mcn_cg {sg sg' : Sg} (h1 : sg' 1 = sg 1) (h7 : sg' 0 7 = sg 0 7) (h8 : sg' 0 8 = sg 0 8) (h9 : sg' 0 9 = sg 0 9) (h X u : Nat) : MCn sg' h X u ↔ MCn sg h X u := by
  unfold MCn
  rw [mc_cg h1 h7 h8 h9]
theorem mcn_cb {sg : Sg} {h X u : Nat} (hX : X ≤ 4095) (hh : h < 12) (m : MCn sg h X u) : X.testBit h = false ∧ cb (sg 1) (Int32.ofNat h) = true := by
  have c := mc_cb m
  refine ⟨?_, c.1⟩
  cases hb : X.testBit h
  · rfl
  · exact absurd ((bit_x hX (by omega)).mpr hb) c.2
theorem bb_n {sg : Sg} {lg : Lg} {A X u h : Nat} (sv : SV (sg 1)) (hA : A = (ctg (sg 1) (sg 1 0).toInt.toNat).toInt.toNat) (hR : ∀ X u, vn A X u → RN sg lg A X u) (hv : vn A X u) (hX : X ≤ 4095) (hu : u ≤ 12) (hh : h < 12) : bb sg lg (Int32.ofNat h) (Int32.ofNat X) (Int32.ofNat u) = true ↔ BBn sg lg X u h := by
  have oo := ofn_or hX hh
  have o := ofn_n hh
  have ox := ofn_x hX
  have etx : (tx (Int32.ofNat X) (Int32.ofNat h)).toNatClampNeg = 13 * (X ||| 2 ^ h) + h := by
    show (ax (Int32.ofNat X ||| ((1 : Int32) <<< (Int32.ofNat h &&& 31))) (Int32.ofNat h)).toNatClampNeg = _
    rw [oo.1, ax_n oo.2 (by omega)]
  unfold bb BBn
  rw [decide_eq_true_eq, etx, ax_n hX hu]
  have eL : (lg 4 (13 * (X ||| 2 ^ h) + h)).toInt = Lv lg (X ||| 2 ^ h) h := rfl
  have eL2 : (lg 4 (13 * X + u)).toInt = Lv lg X u := rfl
  have c := csum_i (S := sg 1) (h := Int32.ofNat h) (set := Int32.ofNat X) sv (by omega) (by omega) (by omega) 12 (by decide)
  rw [o, ox, Int.toNat_natCast, Int.toNat_natCast] at c
  have cmb := cm_bd (S := sg 1) (h := h) (x := X) sv hh
  have c' : (csum (sg 1) (Int32.ofNat h) (Int32.ofNat X) 12).toInt = cm (sg 1) h X := c
  by_cases m : MCn sg h X u
  · have s12 := sv.2.1
    have nb := mcn_cb hX hh m
    have lt : h < (sg 1 0).toInt.toNat := by
      have z1 := nb.2
      simp only [cb, decide_eq_true_eq] at z1
      omega
    have hAh : A.testBit h = true := by rw [hA]; exact (ctg_tb h _ (by omega)).mpr ⟨lt, nb.2⟩
    have rn := (hR _ h (vn_next hv hAh hh)).2.1
    constructor
    · rintro ⟨z1, z2, z3⟩
      rw [eL] at z2
      have e := congrArg Int64.toInt z3
      rw [add64b (by rw [c', eL]; omega) (by rw [c', eL]; omega), c', eL, eL2] at e
      unfold nx
      rw [if_pos z2]
      exact ⟨z1, by omega, e⟩
    · rintro ⟨z1, z2, z3⟩
      unfold nx at z2 z3
      by_cases w : Lv lg (X ||| 2 ^ h) h < 1000000000000000
      · rw [if_pos w] at z3
        refine ⟨z1, by rw [eL]; exact w, Int64.toInt_inj.mp ?_⟩
        rw [add64b (by rw [c', eL]; omega) (by rw [c', eL]; omega), c', eL, eL2]
        exact z3
      · rw [if_neg w] at z2
        omega
  · exact ⟨fun z => absurd z.1 m, fun z => absurd z.1 m⟩
/-- so far the places of l0 are in the reference's hand -/
def RI (sg : Sg) (lg : Lg) (A : Nat) (k : Int) (s : Sg) (X u : Nat) (skip : Int) : Prop := ∃ l0 : List Nat, (l0.length : Int) = (s 0 4).toInt ∧ (∀ l, RO sg lg A l X u skip → RO sg lg A (l0 ++ l) 0 12 k) ∧ ∀ i, i < l0.length → s 3 i = Int32.ofNat (l0.getD i 0)
def RH (sg : Sg) (lg : Lg) (A : Nat) (k : Int) (y : Int64 × Sg × Lg) : Prop := (∃ l : List Nat, RO sg lg A l 0 12 k ∧ (l.length : Int) = (y.2.1 0 4).toInt ∧ ∀ i, i < l.length → y.2.1 3 i = Int32.ofNat (l.getD i 0)) ∧ y.1 = (y.2.1 0 4).toInt64
def SR (sg s : Sg) : Prop := s 1 = sg 1 ∧ s 0 7 = sg 0 7 ∧ s 0 8 = sg 0 8 ∧ s 0 9 = sg 0 9
theorem p_bnd3 {α γ δ β : Type} {o : Option (α × γ × δ)} {k : α → γ → δ → Option β} {y : β} (h : bnd3 o k = some y) : ∃ a b c, o = some (a, b, c) ∧ k a b c = some y := by
  cases o with
  | none => cases h
  | some a => exact ⟨a.1, a.2.1, a.2.2, rfl, h⟩
theorem p_ginv {α : Type} {i : Int32} {n : Nat} {x : Option α} {y : α} (h : gin i n x = some y) : (0 ≤ i.toInt ∧ i.toInt < n) ∧ x = some y := by
  unfold gin at h
  split at h
  · cases h
  · rename_i c
    refine ⟨?_, h⟩
    have c1 : ¬ i < 0 := fun z => c (Or.inl z)
    have c2 : ¬ n ≤ i.toNatClampNeg := fun z => c (Or.inr z)
    rw [i_lt] at c1
    have k0 : (0 : Int32).toInt = 0 := by decide
    have := cl_i (i := i) (by omega)
    omega
theorem rw_mono {sg : Sg} {lg : Lg} {A X u : Nat} (sv : SV (sg 1)) (hA : A = (ctg (sg 1) (sg 1 0).toInt.toNat).toInt.toNat) (hR : ∀ X u, vn A X u → RN sg lg A X u) (hv : vn A X u) (hX : X ≤ 4095) {m : Nat} (hm : m < 12) : RW sg lg X u m ≤ RW sg lg X u (m + 1) := by
  by_cases c : BBn sg lg X u m
  · have e : RW sg lg X u (m + 1) = RW sg lg X u m + Wv lg (X ||| 2 ^ m) m := SF_p c
    have s12 := sv.2.1
    have nb := mcn_cb hX hm c.1
    have lt : m < (sg 1 0).toInt.toNat := by
      have z1 := nb.2
      simp only [cb, decide_eq_true_eq] at z1
      have := ofn_n hm
      omega
    have hAh : A.testBit m = true := by rw [hA]; exact (ctg_tb m _ (by omega)).mpr ⟨lt, nb.2⟩
    have rn := (hR _ m (vn_next hv hAh hm)).1
    omega
  · have e : RW sg lg X u (m + 1) = RW sg lg X u m := SF_n c
    omega
set_option maxHeartbeats 4000000 in
theorem m_59 {sg s : Sg} {lg : Lg} {A X u : Nat} {k : Int} {v5 : Int64} {r48 : (Int32 × Int32 × Int64 × Sg × Lg) → Option (Int64 × Sg × Lg)} {y : Int64 × Sg × Lg} (sv : SV (sg 1)) (hA : A = (ctg (sg 1) (sg 1 0).toInt.toNat).toInt.toNat) (hR : ∀ X u, vn A X u → RN sg lg A X u) (hv : vn A X u) (hX : X ≤ 4095) (hu : u ≤ 12) (hne : ¬ X = A) (hs : SR sg s) (k0 : 0 ≤ v5.toInt) (k1 : v5.toInt < Wv lg X u) (hi : RI sg lg A k s X u v5.toInt)
    (hr : ∀ (h : Nat) (v : Int64) (s' : Sg), h < 12 → BBn sg lg X u h → 0 ≤ v.toInt → v.toInt < Wv lg (X ||| 2 ^ h) h → SR sg s' → RI sg lg A k s' (X ||| 2 ^ h) h v.toInt → r48 (Int32.ofNat (X ||| 2 ^ h), Int32.ofNat h, v, s', lg) = some y → RH sg lg A k y) : LX12_best_59 r48 (Int32.ofNat X, Int32.ofNat u, v5, (0 : Int32), s, lg) = some y → RH sg lg A k y := by
  have kk : (1 : Int32).toInt = 1 := by decide
  have tot : Wv lg X u = RW sg lg X u 12 := ((hR X u hv).2.2.2 hne).2.2
  have mono := fun {m : Nat} (hm : m < 12) => rw_mono sv hA hR hv hX hm
  intro e
  unfold LX12_best_59 at e
  refine loop_ind (fun rec z => fX12_best_59 r48 rec z.1 z.2.1 z.2.2.1 z.2.2.2.1 z.2.2.2.2.1 z.2.2.2.2.2) (y := y) (P := fun z => z.1 = Int32.ofNat X → z.2.1 = Int32.ofNat u → z.2.2.2.2.1 = s → z.2.2.2.2.2 = lg → 0 ≤ z.2.2.2.1.toInt → z.2.2.2.1.toInt ≤ 12 → RW sg lg X u z.2.2.2.1.toInt.toNat ≤ v5.toInt → z.2.2.1.toInt = v5.toInt - RW sg lg X u z.2.2.2.1.toInt.toNat → RH sg lg A k y) (fun rec hrec z h a1 a2 a3 a4 a5 a6 a7 a8 => ?_) _ e rfl rfl rfl rfl (show 0 ≤ (0 : Int32).toInt by decide) (show (0 : Int32).toInt ≤ 12 by decide) ?_ ?_
  · obtain ⟨v3, v4, w, v7, s', l'⟩ := z
    replace a1 : v3 = Int32.ofNat X := a1
    replace a2 : v4 = Int32.ofNat u := a2
    replace a3 : s' = s := a3
    replace a4 : l' = lg := a4
    replace a5 : 0 ≤ v7.toInt := a5
    replace a6 : v7.toInt ≤ 12 := a6
    replace a7 : RW sg lg X u v7.toInt.toNat ≤ v5.toInt := a7
    replace a8 : w.toInt = v5.toInt - RW sg lg X u v7.toInt.toNat := a8
    subst a1 a2 a3 a4
    replace h : fX12_best_59 r48 rec (Int32.ofNat X) (Int32.ofNat u) w v7 s' l' = some y := h
    have le11 : v7.toInt ≤ 11 := by
      refine Decidable.byContradiction fun z => ?_
      rw [show v7.toInt.toNat = 12 by omega, ← tot] at a7
      omega
    have hv7 := of_i a5
    obtain ⟨h7, eh⟩ : ∃ h7, h7 = v7.toInt.toNat := ⟨_, rfl⟩
    rw [← eh] at a7 a8 hv7
    have h12 : h7 < 12 := by omega
    have ox := ofn_x hX
    have ou := ofn_x (X := u) (by omega)
    have sv' : SV (s' 1) := by rw [hs.1]; exact sv
    have isb := isBest_is (sg := s') (lg := l') (h := v7) (set := Int32.ofNat X) (last := Int32.ofNat u) sv' a5 (by omega) (by omega) (by omega) (by omega) (by omega)
    have ebb : bb s' l' v7 (Int32.ofNat X) (Int32.ofNat u) = bb sg l' (Int32.ofNat h7) (Int32.ofNat X) (Int32.ofNat u) := by rw [bb_cg hs.1 hs.2.1 hs.2.2.1 hs.2.2.2, ← hv7]
    have bn := bb_n (h := h7) sv hA hR hv hX hu h12
    -- on to the next
    have go : ∀ (v : Int64) (w0 : Int64), v.toInt = w.toInt - w0.toInt → RW sg l' X u (h7 + 1) = RW sg l' X u h7 + w0.toInt → w0.toInt ≤ w.toInt → lt (v7 + (1 : Int32)) (fun x2 => rec (Int32.ofNat X, Int32.ofNat u, v, x2, s', l')) = some y → RH sg l' A k y := by
      intro v w0 g1 g2 g3 g4
      obtain ⟨x2, e2, g4⟩ := p_lt g4
      replace e2 : x2.toInt = v7.toInt + 1 := by rw [e2]; exact add_c 1 kk (by omega) (by omega)
      have en : x2.toInt.toNat = h7 + 1 := by omega
      refine hrec _ g4 rfl rfl rfl rfl (by show 0 ≤ x2.toInt; omega) (by show x2.toInt ≤ 12; omega) ?_ ?_
      · show RW sg l' X u x2.toInt.toNat ≤ v5.toInt
        rw [en]; omega
      · show v.toInt = v5.toInt - RW sg l' X u x2.toInt.toNat
        rw [en]; omega
    unfold fX12_best_59 at h
    rw [isb, ebb] at h
    replace h : (if (if bb sg l' (Int32.ofNat h7) (Int32.ofNat X) (Int32.ofNat u) = true then (1 : Int32) else 0) = 0 then fX12_best_94 r48 rec (Int32.ofNat X) (Int32.ofNat u) w v7 s' l' else lt (tx (Int32.ofNat X) v7) (fun x6 => gin x6 53248 ((if w < (l' 5 x6.toNatClampNeg) then gin (s' 0 4) 12 (lt (up2 s' 3 (s' 0 4).toNatClampNeg v7) (fun sg10 => lt ((sg10 0 4) + (1 : Int32)) (fun x11 => lt (up2 sg10 0 4 x11) (fun sg12 => lt (Int32.ofNat X ||| ((1 : Int32) <<< (v7 &&& 31))) (fun x13 => r48 (x13, v7, w, sg12, l')))))) else fX12_best_94 r48 rec (Int32.ofNat X) (Int32.ofNat u) w v7 s' l')))) = some y := h
    have oo := ofn_or hX h12
    have etx : (tx (Int32.ofNat X) v7).toNatClampNeg = 13 * (X ||| 2 ^ h7) + h7 := by
      show (ax (Int32.ofNat X ||| ((1 : Int32) <<< (v7 &&& 31))) v7).toNatClampNeg = _
      rw [hv7, oo.1, ax_n oo.2 (by omega)]
    have wk := w.toInt_lt
    by_cases c : bb sg l' (Int32.ofNat h7) (Int32.ofNat X) (Int32.ofNat u) = true
    · have bq := bn.mp c
      have e1 : RW sg l' X u (h7 + 1) = RW sg l' X u h7 + Wv l' (X ||| 2 ^ h7) h7 := SF_p bq
      rw [if_pos c, ite1] at h
      obtain ⟨x6, e6, h⟩ := p_lt h
      replace h := p_gin h
      have ew : (l' 5 x6.toNatClampNeg).toInt = Wv l' (X ||| 2 ^ h7) h7 := by rw [e6, etx]; rfl
      by_cases g : w < l' 5 x6.toNatClampNeg
      · rw [if_pos g] at h
        replace g := j_lt.mp g
        obtain ⟨rng, h⟩ := p_ginv h
        obtain ⟨s10, e10, h⟩ := p_lt h
        obtain ⟨x11, e11, h⟩ := p_lt h
        obtain ⟨s12, e12, h⟩ := p_lt h
        obtain ⟨x13, e13, h⟩ := p_lt h
        have e04 : s10 0 4 = s' 0 4 := by rw [e10, up2_n (by decide)]
        rw [e04] at e11
        replace e11 : x11.toInt = (s' 0 4).toInt + 1 := by rw [e11]; exact add_c 1 kk (by omega) (by omega)
        have hc4 := cl_i rng.1
        rw [hv7, oo.1] at e13
        rw [e13, hv7] at h
        have sr : SR sg s12 := by
          refine ⟨?_, ?_, ?_, ?_⟩
          · rw [e12, up2_n (by decide), e10, up2_n (by decide)]; exact hs.1
          · rw [e12, up2_o (by omega), e10, up2_n (by decide)]; exact hs.2.1
          · rw [e12, up2_o (by omega), e10, up2_n (by decide)]; exact hs.2.2.1
          · rw [e12, up2_o (by omega), e10, up2_n (by decide)]; exact hs.2.2.2
        refine hr h7 w s12 h12 bq (by omega) (by omega) sr ?_ h
        obtain ⟨l0, l1, l2, l3⟩ := hi
        refine ⟨l0 ++ [h7], ?_, fun l ro => ?_, fun i hi => ?_⟩
        · rw [List.length_append, e12, up2_e, e11]
          show ((l0.length + 1 : Nat) : Int) = _
          omega
        · rw [List.append_assoc]
          refine l2 (h7 :: l) ⟨⟨hne, h12, bq, a7, by omega⟩, ?_⟩
          rw [← a8]; exact ro
        · rw [List.length_append] at hi
          have hi' : i < l0.length + 1 := hi
          rw [e12, up2_n (by decide), e10, up2_is]
          by_cases z : i = (s' 0 4).toNatClampNeg
          · rw [if_pos ⟨rfl, z⟩, show i = l0.length by omega, getD_r]; exact hv7
          · rw [if_neg (fun z' => z z'.2), getD_l _ _ (by omega)]
            exact l3 i (by omega)
      · rw [if_neg g] at h
        replace g := j_nlt.mp g
        unfold fX12_best_94 at h
        rw [isb, ebb, if_pos c] at h
        replace h : lt (tx (Int32.ofNat X) v7) (fun x6 => gin x6 53248 (fX12_best_129 r48 rec (Int32.ofNat X) (Int32.ofNat u) v7 (l' 5 x6.toNatClampNeg) w s' l')) = some y := h
        obtain ⟨x6', e6', h⟩ := p_lt h
        replace h := p_gin h
        unfold fX12_best_129 at h
        obtain ⟨x1, f1, h⟩ := p_lt h
        have ew' : (l' 5 x6'.toNatClampNeg).toInt = Wv l' (X ||| 2 ^ h7) h7 := by rw [e6', etx]; rfl
        have wnn : 0 ≤ Wv l' (X ||| 2 ^ h7) h7 := by have := mono h12; omega
        exact go x1 (l' 5 x6'.toNatClampNeg) (by rw [f1, sub64b (by omega) (by omega)]) (by omega) (by omega) h
    · have e1 : RW sg l' X u (h7 + 1) = RW sg l' X u h7 := SF_n (fun z => c (bn.mpr z))
      rw [if_neg c, ite0] at h
      unfold fX12_best_94 at h
      rw [isb, ebb, if_neg c] at h
      replace h : fX12_best_129 r48 rec (Int32.ofNat X) (Int32.ofNat u) v7 (0 : Int64) w s' l' = some y := h
      unfold fX12_best_129 at h
      obtain ⟨x1, f1, h⟩ := p_lt h
      have j0 : (0 : Int64).toInt = 0 := by decide
      exact go x1 0 (by rw [f1, sub64b (by omega) (by omega)]) (by omega) (by omega) h
  · show RW sg lg X u (0 : Int32).toInt.toNat ≤ v5.toInt
    rw [show (0 : Int32).toInt.toNat = 0 by decide]
    exact k0
  · show v5.toInt = v5.toInt - RW sg lg X u (0 : Int32).toInt.toNat
    rw [show (0 : Int32).toInt.toNat = 0 by decide]
    show v5.toInt = v5.toInt - 0
    omega
