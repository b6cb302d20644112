/-! sure -/
theorem kwa_4 {c : Int32} : KWa (fun s => s 4 3 = c) := by
  refine ⟨fun sg k j v w h => ?_, fun sg k n w h => ?_⟩
  · show up2 sg k j v 4 3 = c
    unfold wfa at w
    by_cases z : k = 4 ∧ j = 3
    · rw [z.1, z.2] at w; cases w
    · rw [up2_o (by omega)]; exact h
  · show nw2 sg k n 4 3 = c
    by_cases z : k = 4
    · rw [z] at w; cases w
    · rw [nw2_is, if_neg (fun y => z y.symm), if_neg (by omega)]; exact h
/-- the state in which agree was done -/
def SN (s0 sx : Sg) : Prop := IC0 s0 ∧ MC s0 ∧ OV s0 ∧ AV s0 ∧ (¬ rr s0 0 = 1000000000) ∧ (∀ k, flq k → s0 k = sx k) ∧ s0 24 = sx 24
def AK (sx : Sg) : Prop := (sx 4 3).toInt ≤ (sx 1 1).toInt ∧ (sx 4 3 = sx 1 1 → ∃ s0, SN s0 sx)
theorem AK_cg {s r : Sg} (h : AK s) (e : ∀ k, flq k → r k = s k) (e4 : r 4 3 = s 4 3) (e24 : r 24 = s 24) : AK r := by
  have e1 := e 1 (Or.inl rfl)
  refine ⟨by rw [e4, e1]; exact h.1, fun z => ?_⟩
  rw [e4, e1] at z
  obtain ⟨s0, a1, a2, a3, a4, a5, a6, a7⟩ := h.2 z
  exact ⟨s0, a1, a2, a3, a4, a5, fun k hk => by rw [a6 k hk, e k hk], by rw [a7, e24]⟩
theorem AF_keep {sg t : Sg} (h : AF sg t) (k : Nat) (hk : flq k) : t k = sg k := h.1 k (by unfold flq at hk; omega) (by unfold flq at hk; omega) (by unfold flq at hk; omega) (by unfold flq at hk; omega)
theorem isc_n {v1 : Int32} {sg : Sg} (h0 : v1.toInt < 0) (hI : IC0 sg) : fX2_isCounted v1 sg = some (0, sg) := by
  obtain ⟨⟨y, s⟩, e, p⟩ := isc_X2 (v1 := v1) hI
  obtain ⟨p1, p2, p3, p4⟩ := p
  replace p1 : s = sg := p1
  rcases p4 with ⟨z, -⟩ | ⟨z, -, z2, -⟩
  · have : y = 0 := Int32.toInt_inj.mp (by rw [show (0 : Int32).toInt = 0 by decide]; exact z)
    rw [e, this, p1]
  · omega
section
variable {K : Sg → Sg → Lg → Prop} {n : Nat} {v1 v2 : Int32} {sx sm sx' sm' : Sg} {lm lm' : Lg} {r r' : Int64}
theorem begun_is {s : Sg} {l : Lg} : fX12_begun s l = some ((12 : Int32), s, l) := rfl
set_option maxHeartbeats 4000000 in
theorem m_sure (hM : IM sm lm) (a0 : 0 ≤ v1.toInt) (a1 : v1.toInt < (sm 1 0).toInt) (b0 : 0 ≤ v2.toInt) (b1 : v2.toInt < (sm 1 0).toInt) (ne : v1 ≠ v2) (ca : cb (sm 1) v1 = true) (cb' : cb (sm 1) v2 = true) (e2 : fX12_sure v1 v2 sm lm = some (r', sm', lm')) : ∃ s l A, A = (ctg (s 1) (s 1 0).toInt.toNat).toInt.toNat ∧ s 1 = sm 1 ∧ s 0 7 = 1 ∧ s 0 9 = -1 ∧ (∀ X u, vn A X u → RN s l A X u) ∧ FM0 sm s ∧ ((Lv l 0 12 ≥ 1000000000000000 ∧ r' = -2000000005) ∨ (Lv l 0 12 < 1000000000000000 ∧ ∃ s2 l2, TW s s2 l l2 A v1.toInt.toNat v2.toInt.toNat ∧ r' = (if (if Lv l2 0 12 = Lv l 0 12 then Wv l2 0 12 else 0) = Wv l 0 12 then 1 else if (if Lv l2 0 12 = Lv l 0 12 then Wv l2 0 12 else 0) = 0 then 2 else 0))) := by
  have kc : (12 : Int32).toNatClampNeg = 12 := by decide
  have kB : (1000000000000000 : Int64).toInt = 1000000000000000 := by decide
  have sv := hM.2.2
  have s12 := sv.2.1
  unfold fX12_sure at e2
  rw [isHen1 sv a0 a1, bnd3_s, ite1, isHen1 sv b0 b1, bnd3_s, ite1, if_neg ne, counts_b sv, bnd3_s, if_pos ca, ite1, counts_b sv, bnd3_s, if_pos cb', ite1] at e2
  obtain ⟨s, l, c1, d1⟩ := p_bnd2 e2
  obtain ⟨A, hA, t1, h7, h9, hR, fm⟩ := ok_at (x_law sv) c1
  replace hA : A = (ctg (s 1) (s 1 0).toInt.toNat).toInt.toNat := hA
  replace t1 : s 1 = sm 1 := t1
  replace h7 : s 0 7 = 1 := h7
  replace h9 : s 0 9 = -1 := h9
  refine ⟨s, l, A, hA, t1, h7, h9, hR, fm, ?_⟩
  rw [begun_is, bnd3_s] at d1
  replace d1 := p_gin d1
  rw [kc] at d1
  obtain ⟨x30, e30, d2⟩ := p_lt d1
  rw [begun_is, bnd3_s] at d2
  replace d2 := p_gin d2
  rw [kc] at d2
  obtain ⟨x36, e36, d3⟩ := p_lt d2
  have eL : x30.toInt = Lv l 0 12 := by rw [e30]; rfl
  have eW : x36.toInt = Wv l 0 12 := by rw [e36]; rfl
  by_cases c : x30 < (1000000000000000 : Int64)
  · rw [if_pos c] at d3
    replace c := j_lt.mp c
    right
    refine ⟨by omega, ?_⟩
    obtain ⟨s2, l2, c2, d4⟩ := p_bnd2 d3
    have sv1 : SV (s 1) := by rw [t1]; exact sv
    obtain ⟨B, hB, f1, ⟨f7, f8, f9, fm2⟩, hD⟩ := ok_at (x_fill (v1 := 1) (v2 := v1) (v3 := v2) sv1 (by decide) (by decide)) c2
    replace f1 : s2 1 = s 1 := f1
    replace f7 : s2 0 7 = 1 := f7
    replace f8 : s2 0 8 = v1 := f8
    replace f9 : s2 0 9 = v2 := f9
    have sv2 : SV (s2 1) := by rw [f1]; exact sv1
    have hB' : B = ctg (s2 1) (s2 1 0).toInt.toNat := by rw [f1]; exact hB
    have hR2 := rn_of sv2 hB' hD
    have eA : B.toInt.toNat = A := by rw [hA, hB]
    rw [eA] at hR2
    have ea := of_i a0
    have eb := of_i b0
    have inA : ∀ v : Int32, 0 ≤ v.toInt → v.toInt < (sm 1 0).toInt → cb (sm 1) v = true → A.testBit v.toInt.toNat = true := fun v h0 h1 hc => by
      rw [hA, t1]
      exact (ctg_tb _ _ (by omega)).mpr ⟨by omega, by rw [← of_i h0]; exact hc⟩
    refine ⟨s2, l2, ⟨sv1, f1, hA, hR, hR2, fun h X u hX hh => mcn_held f1 (by rw [f7, h7]) h9 (by rw [f8]; exact ea) (by rw [f9]; exact eb) (by omega) (by omega) hX hh, by omega, by omega, inA v1 a0 a1 ca, inA v2 b0 b1 cb', fun z => ne (Int32.toInt_inj.mp (by omega))⟩, ?_⟩
    rw [begun_is, bnd3_s] at d4
    replace d4 := p_gin d4
    rw [kc] at d4
    have eL2 : (l2 4 12).toInt = Lv l2 0 12 := rfl
    have eW2 : (l2 5 12).toInt = Wv l2 0 12 := rfl
    have j0 : (0 : Int64).toInt = 0 := by decide
    have fin : ∀ w0 : Int64, fX12_sure_111 x36 w0 s2 l2 = some (r', sm', lm') → r' = (if w0.toInt = Wv l 0 12 then 1 else if w0.toInt = 0 then 2 else 0) := by
      intro w0 h
      unfold fX12_sure_111 at h
      by_cases y : w0 = x36
      · rw [if_pos y] at h
        cases h
        rw [if_pos (by rw [y]; exact eW)]
      · rw [if_neg y] at h
        rw [if_neg (fun z => y (Int64.toInt_inj.mp (by omega)))]
        by_cases w : w0 = 0
        · rw [if_pos w] at h
          cases h
          rw [if_pos (by rw [w]; exact j0)]
        · rw [if_neg w] at h
          cases h
          rw [if_neg (fun z => w (Int64.toInt_inj.mp (by omega)))]
    by_cases d : l2 4 12 = x30
    · rw [if_pos d, begun_is, bnd3_s] at d4
      replace d4 := p_gin d4
      rw [kc] at d4
      have := fin _ d4
      rw [eW2] at this
      have eq : Lv l2 0 12 = Lv l 0 12 := by rw [← eL2, d, eL]
      rw [if_pos eq]
      exact this
    · rw [if_neg d] at d4
      have := fin _ d4
      rw [j0] at this
      have nq : ¬ Lv l2 0 12 = Lv l 0 12 := fun z => d (Int64.toInt_inj.mp (by omega))
      rw [if_neg nq]
      exact this
  · rw [if_neg c] at d3
    replace c := j_nlt.mp c
    cases d3
    exact Or.inl ⟨by omega, rfl⟩
set_option maxHeartbeats 4000000 in
theorem val_sure (h : Rel K n sx sm lm) (hJ : JC sx) (hN : NSH sm) (hA : AK sx) (e1 : fX11_sure v1 v2 sx = some (r, sx')) (e2 : fX12_sure v1 v2 sm lm = some (r', sm', lm')) : r = r' ∧ AK sx' := by
  obtain ⟨hI, hM, hF, -⟩ := h
  have sv := hM.2.2
  have t2 := rdC1_0 hI.1
  have s12 := sv.2.1
  have k0 : (0 : Int32).toNatClampNeg = 0 := by decide
  have eh : (sm 1 0).toInt = (sx 1 0).toInt := by rw [hF.1.1]
  -- a refusal
  have bad : (v1 = v2 ∨ ¬ (0 ≤ v1.toInt ∧ Ct sx v1.toInt.toNat) ∨ ¬ (0 ≤ v2.toInt ∧ Ct sx v2.toInt.toNat)) → r' = -2000000001 := by
    intro z
    unfold fX12_sure at e2
    by_cases c1 : 0 ≤ v1.toInt ∧ v1.toInt < (sm 1 0).toInt
    · rw [isHen1 sv c1.1 c1.2, bnd3_s, ite1] at e2
      by_cases c2 : 0 ≤ v2.toInt ∧ v2.toInt < (sm 1 0).toInt
      · rw [isHen1 sv c2.1 c2.2, bnd3_s, ite1] at e2
        by_cases c3 : v1 = v2
        · rw [if_pos c3] at e2; cases e2; rfl
        · rw [if_neg c3, cts_m hF.1 sv rfl c1.1 (by omega), bnd3_s] at e2
          by_cases c4 : Ct sx v1.toInt.toNat
          · rw [if_pos c4, ite1, cts_m hF.1 sv rfl c2.1 (by omega), bnd3_s] at e2
            by_cases c5 : Ct sx v2.toInt.toNat
            · rcases z with z | z | z
              · exact absurd z c3
              · exact absurd ⟨c1.1, c4⟩ z
              · exact absurd ⟨c2.1, c5⟩ z
            · rw [if_neg c5, ite0] at e2; cases e2; rfl
          · rw [if_neg c4, ite0] at e2; cases e2; rfl
      · rw [isHen0 sv c2, bnd3_s, ite0] at e2; cases e2; rfl
    · rw [isHen0 sv c1, bnd3_s, ite0] at e2; cases e2; rfl
  have iscv : ∀ v : Int32, fX2_isCounted v sx = some (@ite _ (0 ≤ v.toInt ∧ Ct sx v.toInt.toNat) (Classical.propDecidable _) 1 0, sx) := fun v => by
    by_cases c : 0 ≤ v.toInt
    · have hc := cl_i c
      rw [isc_b t2.2 c, show v.toNatClampNeg = v.toInt.toNat by omega]
      by_cases d : cnb sx v.toInt.toNat = true
      · have lt := (of_decide_eq_true d).1
        rw [if_pos d, if_pos ⟨c, by omega, d⟩]
      · rw [if_neg d, if_neg (fun z => d z.2.2)]
    · rw [isc_n (by omega) hI.1, if_neg (fun z => c z.1)]
  unfold fX11_sure at e1
  by_cases c3 : v1 = v2
  · rw [if_pos c3] at e1
    cases e1
    exact ⟨(bad (Or.inl c3)).symm, hA⟩
  · rw [if_neg c3, iscv v1, bnd2_s] at e1
    by_cases c4 : 0 ≤ v1.toInt ∧ Ct sx v1.toInt.toNat
    · rw [if_pos c4, ite1, iscv v2, bnd2_s] at e1
      by_cases c5 : 0 ≤ v2.toInt ∧ Ct sx v2.toInt.toNat
      · rw [if_pos c5, ite1] at e1
        obtain ⟨s1, c1, d1⟩ := p_bnd1 e1
        obtain ⟨i1, -, mc1, hc1, ov1, st1, f1⟩ := ok_at (j_solve hI hJ) c1
        have ln1 : LN s1 := by
          have q := (ok_at (sX9_solve hI) c1).2
          unfold LN
          rw [← pw_is]
          exact ⟨q.1, q.2.1⟩
        have a43 : s1 4 3 = sx 4 3 := afX9_solve (kwa_4 (c := sx 4 3)) c1 rfl
        have fl1 : ∀ k, flq k → s1 k = sx k := fun k hk => f1 k (by unfold flq at hk; omega)
        have e24 : s1 24 = sx 24 := f1 24 (by omega)
        have ak1 : AK s1 := AK_cg hA fl1 a43 e24
        have F1 : FEq s1 (sm 1) := FEq_cg hF.1 fl1
        have ns := ns_wt F1 hN
        have ctc : Ct s1 = Ct sx := Ct_cg (by rw [fl1 1 (Or.inl rfl)]) (fl1 11 (by unfold flq; omega)) (fl1 13 (by unfold flq; omega))
        have ha1 := Ct_hen hF.1 c4.2
        have hb1 := Ct_hen hF.1 c5.2
        have cbv : ∀ v : Int32, 0 ≤ v.toInt → Ct sx v.toInt.toNat → cb (sm 1) v = true := fun v h0 hc => by
          have := cb_cnb (h := v.toInt.toNat) hF.1 hc.1
          rw [← of_i h0] at this
          rw [this]; exact hc.2
        obtain ⟨s, l, A, hA', m1, m7, m9, hR, fm, alt⟩ := m_sure hM c4.1 (by omega) c5.1 (by omega) c3 (cbv v1 c4.1 c4.2) (cbv v2 c5.1 c5.2) e2
        have F1s : FEq s1 (s 1) := by rw [m1]; exact F1
        have z := law0 (sm := sm) i1.1 F1 mc1 ov1 ns ⟨A, hA', m1, m7, m9, hR, fm⟩
        obtain ⟨y13, s14, c13, d2⟩ := p_bnd2 d1
        unfold fX9_hasLawful at c13
        replace c13 := p_gin c13
        rw [k0] at c13
        have er : (s1 63 0).toInt = rr s1 0 := rfl
        have zz := z.2.2
        have z1 := z.1
        unfold rw' at z1
        by_cases w : rr s1 0 = 1000000000
        · rw [if_pos (by rw [i_le]; have : (1000000000 : Int32).toInt = 1000000000 := by decide
                         omega)] at c13
          cases c13
          rw [ite0] at d2
          cases d2
          rw [if_pos w] at z1
          rcases alt with ⟨-, q⟩ | ⟨q, -⟩
          · exact ⟨q.symm, ak1⟩
          · omega
        · rw [if_neg (by rw [i_le]; have : (1000000000 : Int32).toInt = 1000000000 := by decide
                         omega)] at c13
          cases c13
          rw [ite1] at d2
          rw [if_neg w] at z1
          rcases alt with ⟨q, -⟩ | ⟨q, s2, l2, T, er'⟩
          · omega
          · obtain ⟨s17, c17, d3⟩ := p_bnd1 d2
            -- agree
            have key : ∃ s0, SN s0 s17 ∧ (∀ k, ¬ (k = 4 ∨ k = 24 ∨ k = 66 ∨ k = 99) → s17 k = s1 k) ∧ AK s17 := by
              by_cases cc : s1 4 3 = s1 3 1
              · unfold fX9_agree at c17
                rw [if_pos cc] at c17
                cases c17
                obtain ⟨s0, sn⟩ := ak1.2 (by rw [cc, st1])
                exact ⟨s0, sn, fun _ _ => rfl, ak1⟩
              · obtain ⟨af, a2, av⟩ := ok_at (c_agree i1.1 hc1 ov1 ln1 cc) c17
                have e32 : s17 3 2 = s1 3 2 := by rw [af.1 3 (by decide) (by decide) (by decide) (by decide)]
                have o17 : OV s17 := OV_cg ov1 e32 (af.1 63 (by decide) (by decide) (by decide) (by decide)) (af.1 64 (by decide) (by decide) (by decide) (by decide)) (fun k a b => af.1 k (by omega) (by omega) (by omega) (by omega))
                have m17 : MC s17 := MC_cg mc1 (by rw [af.1 1 (by decide) (by decide) (by decide) (by decide)]) e32 (af.1 11 (by decide) (by decide) (by decide) (by decide)) (af.1 12 (by decide) (by decide) (by decide) (by decide)) (af.1 13 (by decide) (by decide) (by decide) (by decide)) (af.1 15 (by decide) (by decide) (by decide) (by decide)) (fun k a b => af.1 k (by omega) (by omega) (by omega) (by omega))
                have sn : SN s17 s17 := ⟨ic_af i1.1 af, m17, o17, av, by unfold rr; rw [af.1 63 (by decide) (by decide) (by decide) (by decide)]; exact w, fun _ _ => rfl, rfl⟩
                refine ⟨s17, sn, fun k hk => af.1 k (by omega) (by omega) (by omega) (by omega), ⟨?_, fun _ => ⟨s17, sn⟩⟩⟩
                rw [a2, af.1 1 (by decide) (by decide) (by decide) (by decide), st1]
                exact Int.le_refl _
            obtain ⟨s0, ⟨n1, n2, n3, n4, n5, n6, n7⟩, f17, ak17⟩ := key
            have F0 : FEq s0 (s 1) := by
              rw [m1]
              refine FEq_cg F1 (fun k hk => ?_)
              rw [n6 k hk]
              exact f17 k (by unfold flq at hk; omega)
            have ns0 := ns_wt (sx := s0) (sm := sm) (by rw [← m1]; exact F0) hN
            have fl0 : ∀ k, flq k → s0 k = s1 k := fun k hk => by rw [n6 k hk]; exact f17 k (by unfold flq at hk; omega)
            have ct0 : Ct s0 = Ct sx := by
              rw [← ctc]
              exact Ct_cg (by rw [fl0 1 (Or.inl rfl)]) (fl0 11 (by unfold flq; omega)) (fl0 13 (by unfold flq; omega))
            have rk0 : ∀ m, rk s0 m = rk s1 m := rk_cg (fun x => cnb_cg (fl0 1 (Or.inl rfl)) (fl0 11 (by unfold flq; omega)) (fl0 13 (by unfold flq; omega)) x)
            have ca0 : Ct s0 v1.toInt.toNat := by rw [ct0]; exact c4.2
            have cb0 : Ct s0 v2.toInt.toNat := by rw [ct0]; exact c5.2
            have ca1 : Ct s1 v1.toInt.toNat := by rw [ctc]; exact c4.2
            have cb1 : Ct s1 v2.toInt.toNat := by rw [ctc]; exact c5.2
            have nev : v1.toInt.toNat ≠ v2.toInt.toNat := T.ne
            have ner : rk s0 v1.toInt.toNat ≠ rk s0 v2.toInt.toNat := fun y => nev (rk_inj ca0.2 cb0.2 y)
            have en0 : (s0 3 2).toInt.toNat = rk s0 12 := by rw [n2.1]; rfl
            have la := rk_lt ca0.2 ca0.1
            have lb := rk_lt cb0.2 cb0.1
            have r12 := rk_le s0 12
            have g0 : vn A (HS s0 0) 12 := ⟨fun j hj => absurd hj (by rw [HS_0, Nat.zero_testBit]; decide), Or.inl ⟨rfl, HS_0 s0⟩⟩
            have gd0 : Good s0 (HS s0 0) 12 := by rw [HS_0]; exact good0 s0 12
            have pab := PH_PS (sm := s) (lm := l) n1 F0 n2 n3 m7 m9 hA' ns0 hR ca0.1 cb0.1 ca0.2 cb0.2 (x := 0) (Nat.pow_pos (by decide)) g0 gd0 n5
            have pba := PH_PS (sm := s) (lm := l) n1 F0 n2 n3 m7 m9 hA' ns0 hR cb0.1 ca0.1 cb0.2 ca0.2 (x := 0) (Nat.pow_pos (by decide)) g0 gd0 n5
            rw [HS_0] at pab pba
            have vn0 : vn A 0 12 := by rw [HS_0] at g0; exact g0
            have bitab : (s17 24 (rk s1 v1.toInt.toNat)).toInt.toNat.testBit (rk s1 v2.toInt.toNat) = true ↔ PHi s l v1.toInt.toNat v2.toInt.toNat 0 12 := by
              rw [pab, PS_iff ner, ← n7, ← rk0, ← rk0]
              exact n4 _ _ (by omega) (by omega)
            have bitba : (s17 24 (rk s1 v2.toInt.toNat)).toInt.toNat.testBit (rk s1 v1.toInt.toNat) = true ↔ PHi s l v2.toInt.toNat v1.toInt.toNat 0 12 := by
              rw [pba, PS_iff (fun y => ner y.symm), ← n7, ← rk0, ← rk0]
              exact n4 _ _ (by omega) (by omega)
            have r24 : ∀ j, 0 ≤ (s17 24 j).toInt := fun j => by rw [← n7]; exact (rdC24 n1).1
            have hca := cl_i c4.1
            have hcb := cl_i c5.1
            have la1 := rk_lt ca1.2 ca1.1
            have lb1 := rk_lt cb1.2 cb1.1
            have r121 := rk_le s1 12
            have oa := ofn_n (j := rk s1 v1.toInt.toNat) (by omega)
            have ob := ofn_n (j := rk s1 v2.toInt.toNat) (by omega)
            have coa := cl_i (i := Int32.ofNat (rk s1 v1.toInt.toNat)) (by omega)
            have cob := cl_i (i := Int32.ofNat (rk s1 v2.toInt.toNat)) (by omega)
            replace d3 := p_gin d3
            rw [f17 18 (by omega), show v1.toNatClampNeg = v1.toInt.toNat by omega, show v2.toNatClampNeg = v2.toInt.toNat by omega, (mc1.2.1 _ ca1.1 ca1.2).2.1, (mc1.2.1 _ cb1.1 cb1.2).2.1] at d3
            obtain ⟨x21, e21, d4⟩ := p_lt d3
            replace d4 := p_gin d4
            obtain ⟨x23, e23, d5⟩ := p_lt d4
            -- may one stand above another
            have msa : ∀ i j : Nat, i < 12 → j < 12 → ∀ y s', fX9_mayStandAbove (Int32.ofNat i) (Int32.ofNat j) s17 = some (y, s') → s' = s17 ∧ (y = 1 ∧ (s17 24 i).toInt.toNat.testBit j = true ∨ y = 0 ∧ ¬ (s17 24 i).toInt.toNat.testBit j = true) := by
              intro i j hi hj y s' hms
              have oi := ofn_n hi
              have oj := ofn_n hj
              have ci := cl_i (i := Int32.ofNat i) (by omega)
              unfold fX9_mayStandAbove at hms
              replace hms := p_gin hms
              rw [show (Int32.ofNat i).toNatClampNeg = i by omega, isIn_is, bnd2_s] at hms
              replace hms := p_gz hms
              have bi := bit_n (a := s17 24 i) (v := Int32.ofNat j) (r24 i) (by omega) (by omega)
              rw [oj, Int.toNat_natCast] at bi
              by_cases f : ((s17 24 i >>> (Int32.ofNat j &&& 31)) &&& (1 : Int32)) = (1 : Int32)
              · rw [if_pos f] at hms
                cases hms
                exact ⟨rfl, Or.inl ⟨rfl, bi.mp f⟩⟩
              · rw [if_neg f] at hms
                cases hms
                exact ⟨rfl, Or.inr ⟨rfl, fun y => f (bi.mpr y)⟩⟩
            obtain ⟨y24, s25, c25, d6⟩ := p_bnd2 d5
            rw [e21, e23] at c25
            obtain ⟨g25, alt25⟩ := msa _ _ (by omega) (by omega) _ _ c25
            obtain ⟨t1, t2', t3, t4⟩ := tw_out T 4096 0 12 (by omega) vn0 (Nat.zero_testBit _) (Nat.zero_testBit _)
            have wp := W_pos T.sv T.hA T.hR 4096 0 12 (by omega) vn0 q
            have wp2 : Lv l2 0 12 = Lv l 0 12 → 0 < Wv l2 0 12 := fun y => W_pos (s := s2) (by rw [T.e1]; exact T.sv) (by rw [T.e1]; exact T.hA) T.hR2 4096 0 12 (by omega) vn0 (by omega)
            rw [er']
            rcases alt25 with ⟨y1, y2⟩ | ⟨y1, y2⟩
            · rw [y1, ite1] at d6
              have qba := bitba.mp y2
              obtain ⟨y28, s29, c29, d7⟩ := p_bnd2 d6
              rw [e21, e23, g25] at c29
              obtain ⟨g29, alt29⟩ := msa _ _ (by omega) (by omega) _ _ c29
              rcases alt29 with ⟨x1, x2⟩ | ⟨x1, x2⟩
              · rw [x1, ite1] at d7
                cases d7
                have qab := bitab.mp x2
                have eL := (t2' q).mpr qab
                have w4 := t4 q eL
                have := wp2 eL
                rw [if_pos eL, if_neg (fun y => (w4.2.mp y) qba), if_neg (by omega)]
                exact ⟨rfl, by rw [g29]; exact ak17⟩
              · rw [x1, ite0] at d7
                cases d7
                have nab : ¬ Lv l2 0 12 = Lv l 0 12 := fun y => x2 (bitab.mpr ((t2' q).mp y))
                rw [if_neg nab, if_neg (by omega), if_pos rfl]
                exact ⟨rfl, by rw [g29]; exact ak17⟩
            · rw [y1, ite0] at d6
              cases d6
              have nba : ¬ PHi s l v2.toInt.toNat v1.toInt.toNat 0 12 := fun y => y2 (bitba.mpr y)
              have qab : PHi s l v1.toInt.toNat v2.toInt.toNat 0 12 := by
                rcases t3 q with y | y
                · exact y
                · exact absurd y nba
              have eL := (t2' q).mpr qab
              have w4 := t4 q eL
              rw [if_pos eL, if_pos (w4.2.mpr nba)]
              exact ⟨rfl, by rw [g25]; exact ak17⟩
      · rw [if_neg c5, ite0] at e1
        cases e1
        exact ⟨(bad (Or.inr (Or.inr c5))).symm, hA⟩
    · rw [if_neg c4, ite0] at e1
      cases e1
      exact ⟨(bad (Or.inr (Or.inl c4))).symm, hA⟩
end
/-! with agree kept -/
def KSu (sx sm : Sg) (lm : Lg) : Prop := JC sx ∧ NSH sm ∧ HD sx sm ∧ GK sx ∧ AK sx
theorem KSuF : KF KSu := fun sx sm sx' sm' lm hI hJ st same s3 s0 nn => by
  have h := KGF sx sm sx' sm' lm hI ⟨hJ.1, hJ.2.1, hJ.2.2.1, hJ.2.2.2.1⟩ st same s3 s0 nn
  have e4 := same 4 (by decide) (by decide) (by omega) (by omega)
  have g := hJ.2.2.2.2.1
  refine ⟨h.1, h.2.1, h.2.2.1, h.2.2.2, by rw [e4]; omega, fun z => ?_⟩
  rw [e4] at z
  have := congrArg Int32.toInt z
  omega
theorem ksu0 : KSu sgC0 sgM0 lg0 := by
  have a : (sgC0 4 3).toInt = -1 := by decide
  have b : (sgC0 1 1).toInt = 0 := by decide
  exact ⟨kg0.1, kg0.2.1, kg0.2.2.1, kg0.2.2.2, by omega, fun z => by have := congrArg Int32.toInt z; omega⟩
theorem ak_a {M : List Nat} {sx sx' : Sg} {r : Int64} (hA : AK sx) (h : PLC M sx (r, sx')) (hM : ∀ k ∈ M, ¬ (k = 1 ∨ k = 2 ∨ (11 ≤ k ∧ k ≤ 15) ∨ (47 ≤ k ∧ k ≤ 62) ∨ k = 24)) (e4 : sx' 4 3 = sx 4 3) : AK sx' := by
  have f : ∀ k, (k = 1 ∨ k = 2 ∨ (11 ≤ k ∧ k ≤ 15) ∨ (47 ≤ k ∧ k ≤ 62) ∨ k = 24) → sx' k = sx k := fun k hk => h.2 k (fun z => hM k z hk)
  exact AK_cg hA (fun k hk => f k (by unfold flq at hk; omega)) e4 (f 24 (by omega))
theorem ak_l {M : List Nat} {sx sx' : Sg} {r : Int64} (hA : AK sx) (h : PLC M sx (r, sx')) (hM : ∀ k ∈ M, ¬ (k = 1 ∨ k = 2 ∨ (11 ≤ k ∧ k ≤ 15) ∨ (47 ≤ k ∧ k ≤ 62) ∨ k = 24)) (h4 : 4 ∉ M) : AK sx' := ak_a hA h hM (congrFun (h.2 4 h4) 3)
theorem ak_u {sx sx' : Sg} {r : Int64} (hA : AK sx) (h : PUlC sx (r, sx')) : AK sx' := by
  have e : sx' = sx := h
  rw [e]
  exact hA
