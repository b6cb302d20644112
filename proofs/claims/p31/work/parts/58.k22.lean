/-! sure -/
theorem kwa_4 {c : Int32} : KWa (fun s => s 4 3 = c) := by
  refine ⟨fun sg k j v w h => ?_, fun sg k n w h => ?_⟩
  · show up2 sg k j v 4 3 = c
    unfold wfa at w
    by_cases z : k = 4 ∧ j = 3
    · rw [z.1, z.2] at w; cases w
    · rw [up2_o (by omega)]; exact h
  · show nw2 sg k n 4 3 = c
    by_cases z : k = 4
    · rw [z] at w; cases w
    · rw [nw2_is, if_neg (fun y => z y.symm), if_neg (by omega)]; exact h
/-- the state in which agree was done -/
def SN (s0 sx : Sg) : Prop := IC0 s0 ∧ MC s0 ∧ OV s0 ∧ AV s0 ∧ (¬ rr s0 0 = 1000000000) ∧ (∀ k, flq k → s0 k = sx k) ∧ s0 24 = sx 24
def AK (sx : Sg) : Prop := (sx 4 3).toInt ≤ (sx 1 1).toInt ∧ (sx 4 3 = sx 1 1 → ∃ s0, SN s0 sx)
theorem AK_cg {s r : Sg} (h : AK s) (e : ∀ k, flq k → r k = s k) (e4 : r 4 3 = s 4 3) (e24 : r 24 = s 24) : AK r := by
  have e1 := e 1 (Or.inl rfl)
  refine ⟨by rw [e4, e1]; exact h.1, fun z => ?_⟩
  rw [e4, e1] at z
  obtain ⟨s0, a1, a2, a3, a4, a5, a6, a7⟩ := h.2 z
  exact ⟨s0, a1, a2, a3, a4, a5, fun k hk => by rw [a6 k hk, e k hk], by rw [a7, e24]⟩
theorem AF_keep {sg t : Sg} (h : AF sg t) (k : Nat) (hk : flq k) : t k = sg k := h.1 k (by unfold flq at hk; omega) (by unfold flq at hk; omega) (by unfold flq at hk; omega) (by unfold flq at hk; omega)
theorem isc_n {v1 : Int32} {sg : Sg} (h0 : v1.toInt < 0) (hI : IC0 sg) : fX2_isCounted v1 sg = some (0, sg) := by
  obtain ⟨⟨y, s⟩, e, p⟩ := isc_X2 (v1 := v1) hI
  obtain ⟨p1, p2, p3, p4⟩ := p
  replace p1 : s = sg := p1
  rcases p4 with ⟨z, -⟩ | ⟨z, -, z2, -⟩
  · have : y = 0 := Int32.toInt_inj.mp (by rw [show (0 : Int32).toInt = 0 by decide]; exact z)
    rw [e, this, p1]
  · omega
section
variable {K : Sg → Sg → Lg → Prop} {n : Nat} {v1 v2 : Int32} {sx sm sx' sm' : Sg} {lm lm' : Lg} {r r' : Int64}
theorem begun_is {s : Sg} {l : Lg} : fX12_begun s l = some ((12 : Int32), s, l) := rfl
set_option maxHeartbeats 4000000 in
theorem m_sure (hM : IM sm lm) (a0 : 0 ≤ v1.toInt) (a1 : v1.toInt < (sm 1 0).toInt) (b0 : 0 ≤ v2.toInt) (b1 : v2.toInt < (sm 1 0).toInt) (ne : v1 ≠ v2) (ca : cb (sm 1) v1 = true) (cb' : cb (sm 1) v2 = true) (e2 : fX12_sure v1 v2 sm lm = some (r', sm', lm')) : ∃ s l A, A = (ctg (s 1) (s 1 0).toInt.toNat).toInt.toNat ∧ s 1 = sm 1 ∧ s 0 7 = 1 ∧ s 0 9 = -1 ∧ (∀ X u, vn A X u → RN s l A X u) ∧ FM0 sm s ∧ ((Lv l 0 12 ≥ 1000000000000000 ∧ r' = -2000000005) ∨ (Lv l 0 12 < 1000000000000000 ∧ ∃ s2 l2, TW s s2 l l2 A v1.toInt.toNat v2.toInt.toNat ∧ r' = (if (if Lv l2 0 12 = Lv l 0 12 then Wv l2 0 12 else 0) = Wv l 0 12 then 1 else if (if Lv l2 0 12 = Lv l 0 12 then Wv l2 0 12 else 0) = 0 then 2 else 0))) := by
  have kc : (12 : Int32).toNatClampNeg = 12 := by decide
  have kB : (1000000000000000 : Int64).toInt = 1000000000000000 := by decide
  have sv := hM.2.2
  have s12 := sv.2.1
  unfold fX12_sure at e2
  rw [isHen1 sv a0 a1, bnd3_s, ite1, isHen1 sv b0 b1, bnd3_s, ite1, if_neg ne, counts_b sv, bnd3_s, if_pos ca, ite1, counts_b sv, bnd3_s, if_pos cb', ite1] at e2
  obtain ⟨s, l, c1, d1⟩ := p_bnd2 e2
  obtain ⟨A, hA, t1, h7, h9, hR, fm⟩ := ok_at (x_law sv) c1
  replace hA : A = (ctg (s 1) (s 1 0).toInt.toNat).toInt.toNat := hA
  replace t1 : s 1 = sm 1 := t1
  replace h7 : s 0 7 = 1 := h7
  replace h9 : s 0 9 = -1 := h9
  refine ⟨s, l, A, hA, t1, h7, h9, hR, fm, ?_⟩
  rw [begun_is, bnd3_s] at d1
  replace d1 := p_gin d1
  rw [kc] at d1
  obtain ⟨x30, e30, d2⟩ := p_lt d1
  rw [begun_is, bnd3_s] at d2
  replace d2 := p_gin d2
  rw [kc] at d2
  obtain ⟨x36, e36, d3⟩ := p_lt d2
  have eL : x30.toInt = Lv l 0 12 := by rw [e30]; rfl
  have eW : x36.toInt = Wv l 0 12 := by rw [e36]; rfl
  by_cases c : x30 < (1000000000000000 : Int64)
  · rw [if_pos c] at d3
    replace c := j_lt.mp c
    right
    refine ⟨by omega, ?_⟩
    obtain ⟨s2, l2, c2, d4⟩ := p_bnd2 d3
    have sv1 : SV (s 1) := by rw [t1]; exact sv
    obtain ⟨B, hB, f1, ⟨f7, f8, f9, fm2⟩, hD⟩ := ok_at (x_fill (v1 := 1) (v2 := v1) (v3 := v2) sv1 (by decide) (by decide)) c2
    replace f1 : s2 1 = s 1 := f1
    replace f7 : s2 0 7 = 1 := f7
    replace f8 : s2 0 8 = v1 := f8
    replace f9 : s2 0 9 = v2 := f9
    have sv2 : SV (s2 1) := by rw [f1]; exact sv1
    have hB' : B = ctg (s2 1) (s2 1 0).toInt.toNat := by rw [f1]; exact hB
    have hR2 := rn_of sv2 hB' hD
    have eA : B.toInt.toNat = A := by rw [hA, hB]
    rw [eA] at hR2
    have ea := of_i a0
    have eb := of_i b0
    have inA : ∀ v : Int32, 0 ≤ v.toInt → v.toInt < (sm 1 0).toInt → cb (sm 1) v = true → A.testBit v.toInt.toNat = true := fun v h0 h1 hc => by
      rw [hA, t1]
      exact (ctg_tb _ _ (by omega)).mpr ⟨by omega, by rw [← of_i h0]; exact hc⟩
    refine ⟨s2, l2, ⟨sv1, f1, hA, hR, hR2, fun h X u hX hh => mcn_held f1 (by rw [f7, h7]) h9 (by rw [f8]; exact ea) (by rw [f9]; exact eb) (by omega) (by omega) hX hh, by omega, by omega, inA v1 a0 a1 ca, inA v2 b0 b1 cb', fun z => ne (Int32.toInt_inj.mp (by omega))⟩, ?_⟩
    rw [begun_is, bnd3_s] at d4
    replace d4 := p_gin d4
    rw [kc] at d4
    have eL2 : (l2 4 12).toInt = Lv l2 0 12 := rfl
    have eW2 : (l2 5 12).toInt = Wv l2 0 12 := rfl
    have j0 : (0 : Int64).toInt = 0 := by decide
    have fin : ∀ w0 : Int64, fX12_sure_111 x36 w0 s2 l2 = some (r', sm', lm') → r' = (if w0.toInt = Wv l 0 12 then 1 else if w0.toInt = 0 then 2 else 0) := by
      intro w0 h
      unfold fX12_sure_111 at h
      by_cases y : w0 = x36
      · rw [if_pos y] at h
        cases h
        rw [if_pos (by rw [y]; exact eW)]
      · rw [if_neg y] at h
        rw [if_neg (fun z => y (Int64.toInt_inj.mp (by omega)))]
        by_cases w : w0 = 0
        · rw [if_pos w] at h
          cases h
          rw [if_pos (by rw [w]; exact j0)]
        · rw [if_neg w] at h
          cases h
          rw [if_neg (fun z => w (Int64.toInt_inj.mp (by omega)))]
    by_cases d : l2 4 12 = x30
    · rw [if_pos d, begun_is, bnd3_s] at d4
      replace d4 := p_gin d4
      rw [kc] at d4
      have := fin _ d4
      rw [eW2] at this
      have eq : Lv l2 0 12 = Lv l 0 12 := by rw [← eL2, d, eL]
      rw [if_pos eq]
      exact this
    · rw [if_neg d] at d4
      have := fin _ d4
      rw [j0] at this
      have nq : ¬ Lv l2 0 12 = Lv l 0 12 := fun z => d (Int64.toInt_inj.mp (by omega))
      rw [if_neg nq]
      exact this
  · rw [if_neg c] at d3
    replace c := j_nlt.mp c
    cases d3
    exact Or.inl ⟨by omega, rfl⟩
set_option maxHeartbeats 4000000 in
theorem val_sure (h : Rel K n sx sm lm) (hJ : JC sx) (hN : NSH sm) (hA : AK sx) (e1 : fX11_sure v1 v2 sx = some (r, sx')) (e2 : fX12_sure v1 v2 sm lm = some (r', sm', lm')) : r = r' ∧ AK sx' := by
  obtain ⟨hI, hM, hF, -⟩ := h
  have sv := hM.2.2
  have t2 := rdC1_0 hI.1
  have s12 := sv.2.1
  have k0 : (0 : Int32).toNatClampNeg = 0 := by decide
  have eh : (sm 1 0).toInt = (sx 1 0).toInt := by rw [hF.1.1]
  -- a refusal
  have bad : (v1 = v2 ∨ ¬ (0 ≤ v1.toInt ∧ Ct sx v1.toInt.toNat) ∨ ¬ (0 ≤ v2.toInt ∧ Ct sx v2.toInt.toNat)) → r' = -2000000001 := by
    intro z
    unfold fX12_sure at e2
    by_cases c1 : 0 ≤ v1.toInt ∧ v1.toInt < (sm 1 0).toInt
    · rw [isHen1 sv c1.1 c1.2, bnd3_s, ite1] at e2
      by_cases c2 : 0 ≤ v2.toInt ∧ v2.toInt < (sm 1 0).toInt
      · rw [isHen1 sv c2.1 c2.2, bnd3_s, ite1] at e2
        by_cases c3 : v1 = v2
        · rw [if_pos c3] at e2; cases e2; rfl
        · rw [if_neg c3, cts_m hF.1 sv rfl c1.1 (by omega), bnd3_s] at e2
          by_cases c4 : Ct sx v1.toInt.toNat
          · rw [if_pos c4, ite1, cts_m hF.1 sv rfl c2.1 (by omega), bnd3_s] at e2
            by_cases c5 : Ct sx v2.toInt.toNat
            · rcases z with z | z | z
              · exact absurd z c3
              · exact absurd ⟨c1.1, c4⟩ z
              · exact absurd ⟨c2.1, c5⟩ z
            · rw [if_neg c5, ite0] at e2; cases e2; rfl
          · rw [if_neg c4, ite0] at e2; cases e2; rfl
      · rw [isHen0 sv c2, bnd3_s, ite0] at e2; cases e2; rfl
    · rw [isHen0 sv c1, bnd3_s, ite0] at e2; cases e2; rfl
  have iscv : ∀ v : Int32, fX2_isCounted v sx = some (@ite _ (0 ≤ v.toInt ∧ Ct sx v.toInt.toNat) (Classical.propDecidable _) 1 0, sx) := fun v => by
    by_cases c : 0 ≤ v.toInt
    · have hc := cl_i c
      rw [isc_b t2.2 c, show v.toNatClampNeg = v.toInt.toNat by omega]
      by_cases d : cnb sx v.toInt.toNat = true
      · have lt := (of_decide_eq_true d).1
        rw [if_pos d, if_pos ⟨c, by omega, d⟩]
      · rw [if_neg d, if_neg (fun z => d z.2.2)]
    · rw [isc_n (by omega) hI.1, if_neg (fun z => c z.1)]
  unfold fX11_sure at e1
  by_cases c3 : v1 = v2
  · rw [if_pos c3] at e1
    cases e1
    exact ⟨(bad (Or.inl c3)).symm, hA⟩
  · rw [if_neg c3, iscv v1, bnd2_s] at e1
    by_cases c4 : 0 ≤ v1.toInt ∧ Ct sx v1.toInt.toNat
    · rw [if_pos c4, ite1, iscv v2, bnd2_s] at e1
      by_cases c5 : 0 ≤ v2.toInt ∧ Ct sx v2.toInt.toNat
      · rw [if_pos c5, ite1] at e1
        obtain ⟨s1, c1, d1⟩ := p_bnd1 e1
        obtain ⟨i1, -, mc1, hc1, ov1, st1, f1⟩ := ok_at (j_solve hI hJ) c1
        have ln1 : LN s1 := by
          have q := (ok_at (sX9_solve hI) c1).2
          unfold LN
          rw [← pw_is]
          exact ⟨q.1, q.2.1⟩
        have a43 : s1 4 3 = sx 4 3 := afX9_solve (kwa_4 (c := sx 4 3)) c1 rfl
        have fl1 : ∀ k, flq k → s1 k = sx k := fun k hk => f1 k (by unfold flq at hk; omega)
        have e24 : s1 24 = sx 24 := f1 24 (by omega)
        have ak1 : AK s1 := AK_cg hA fl1 a43 e24
        have F1 : FEq s1 (sm 1) := FEq_cg hF.1 fl1
        have ns := ns_wt F1 hN
        have ctc : Ct s1 = Ct sx := Ct_cg (by rw [fl1 1 (Or.inl rfl)]) (fl1 11 (by unfold flq; omega)) (fl1 13 (by unfold flq; omega))
        have ha1 := Ct_hen hF.1 c4.2
        have hb1 := Ct_hen hF.1 c5.2
        have cbv : ∀ v : Int32, 0 ≤ v.toInt → Ct sx v.toInt.toNat → cb (sm 1) v = true := fun v h0 hc => by
          have := cb_cnb (h := v.toInt.toNat) hF.1 hc.1
          rw [← of_i h0] at this
          rw [this]; exact hc.2
        obtain ⟨s, l, A, hA', m1, m7, m9, hR, fm, alt⟩ := m_sure hM c4.1 (by omega) c5.1 (by omega) c3 (cbv v1 c4.1 c4.2) (cbv v2 c5.1 c5.2) e2
        have F1s : FEq s1 (s 1) := by rw [m1]; exact F1
        have z := law0 (sm := sm) i1.1 F1 mc1 ov1 ns ⟨A, hA', m1, m7, m9, hR, fm⟩
        obtain ⟨y13, s14, c13, d2⟩ := p_bnd2 d1
        unfold fX9_hasLawful at c13
        replace c13 := p_gin c13
        rw [k0] at c13
        have er : (s1 63 0).toInt = rr s1 0 := rfl
        have zz := z.2.2
        have z1 := z.1
        unfold rw' at z1
        by_cases w : rr s1 0 = 1000000000
        · rw [if_pos (by rw [i_le]; have : (1000000000 : Int32).toInt = 1000000000 := by decide
                         omega)] at c13
          cases c13
          rw [ite0] at d2
          cases d2
          rw [if_pos w] at z1
          rcases alt with ⟨-, q⟩ | ⟨q, -⟩
          · exact ⟨q.symm, ak1⟩
          · omega
        · rw [if_neg (by rw [i_le]; have : (1000000000 : Int32).toInt = 1000000000 := by decide
                         omega)] at c13
          cases c13
          rw [ite1] at d2
          rw [if_neg w] at z1
          rcases alt with ⟨q, -⟩ | ⟨q, s2, l2, T, er'⟩
          · omega
          · obtain ⟨s17, c17, d3⟩ := p_bnd1 d2
            -- agree
            have key : ∃ s0, SN s0 s17 ∧ (∀ k, ¬ (k = 4 ∨ k = 24 ∨ k = 66 ∨ k = 99) → s17 k = s1 k) ∧ AK s17 := by
              by_cases cc : s1 4 3 = s1 3 1
              · unfold fX9_agree at c17
                rw [if_pos cc] at c17
                cases c17
                obtain ⟨s0, sn⟩ := ak1.2 (by rw [cc, st1])
                exact ⟨s0, sn, fun _ _ => rfl, ak1⟩
              · obtain ⟨af, a2, av⟩ := ok_at (c_agree i1.1 hc1 ov1 ln1 cc) c17
                have e32 : s17 3 2 = s1 3 2 := by rw [af.1 3 (by decide) (by decide) (by decide) (by decide)]
                have o17 : OV s17 := OV_cg ov1 e32 (af.1 63 (by decide) (by decide) (by decide) (by decide)) (af.1 64 (by decide) (by decide) (by decide) (by decide)) (fun k a b => af.1 k (by omega) (by omega) (by omega) (by omega))
                have m17 : MC s17 := MC_cg mc1 (by rw [af.1 1 (by decide) (by decide) (by decide) (by decide)]) e32 (af.1 11 (by decide) (by decide) (by decide) (by decide)) (af.1 12 (by decide) (by decide) (by decide) (by decide)) (af.1 13 (by decide) (by decide) (by decide) (by decide)) (af.1 15 (by decide) (by decide) (by decide) (by decide)) (fun k a b => af.1 k (by omega) (by omega) (by omega) (by omega))
                have sn : SN s17 s17 := ⟨ic_af i1.1 af, m17, o17, av, by unfold rr; rw [af.1 63 (by decide) (by decide) (by decide) (by decide)]; exact w, fun _ _ => rfl, rfl⟩
                refine ⟨s17, sn, fun k hk => af.1 k (by omega) (by omega) (by omega) (by omega), ⟨?_, fun _ => ⟨s17, sn⟩⟩⟩
                rw [a2, af.1 1 (by decide) (by decide) (by decide) (by decide), st1]
                exact Int.le_refl _
            obtain ⟨s0, ⟨n1, n2, n3, n4, n5, n6, n7⟩, f17, ak17⟩ := key
            have F0 : FEq s0 (s 1) := by
              rw [m1]
              refine FEq_cg F1 (fun k hk => ?_)
              rw [n6 k hk]
              exact f17 k (by unfold flq at hk; omega)
            have ns0 := ns_wt (sx := s0) (sm := sm) (by rw [← m1]; exact F0) hN
            have fl0 : ∀ k, flq k → s0 k = s1 k := fun k hk => by rw [n6 k hk]; exact f17 k (by unfold flq at hk; omega)
            have ct0 : Ct s0 = Ct sx := by
              rw [← ctc]
              exact Ct_cg (by rw [fl0 1 (Or.inl rfl)]) (fl0 11 (by unfold flq; omega)) (fl0 13 (by unfold flq; omega))
            have rk0 : ∀ m, rk s0 m = rk s1 m := rk_cg (fun x => cnb_cg (fl0 1 (Or.inl rfl)) (fl0 11 (by unfold flq; omega)) (fl0 13 (by unfold flq; omega)) x)
            have ca0 : Ct s0 v1.toInt.toNat := by rw [ct0]; exact c4.2
            have cb0 : Ct s0 v2.toInt.toNat := by rw [ct0]; exact c5.2
            have ca1 : Ct s1 v1.toInt.toNat := by rw [ctc]; exact c4.2
            have cb1 : Ct s1 v2.toInt.toNat := by rw [ctc]; exact c5.2
            have nev : v1.toInt.toNat ≠ v2.toInt.toNat := T.ne
            have ner : rk s0 v1.toInt.toNat ≠ rk s0 v2.toInt.toNat := fun y => nev (rk_inj ca0.2 cb0.2 y)
            have en0 : (s0 3 2).toInt.toNat = rk s0 12 := by rw [n2.1]; rfl
            have la := rk_lt ca0.2 ca0.1
            have lb := rk_lt cb0.2 cb0.1
            have r12 := rk_le s0 12
            have g0 : vn A (HS s0 0) 12 := ⟨fun j hj => absurd hj (by rw [HS_0, Nat.zero_testBit]; decide), Or.inl ⟨rfl, HS_0 s0⟩⟩
            have gd0 : Good s0 (HS s0 0) 12 := by rw [HS_0]; exact good0 s0 12
            have pab := PH_PS (sm := s) (lm := l) n1 F0 n2 n3 m7 m9 hA' ns0 hR ca0.1 cb0.1 ca0.2 cb0.2 (x := 0) (Nat.pow_pos (by decide)) g0 gd0 n5
            have pba := PH_PS (sm := s) (lm := l) n1 F0 n2 n3 m7 m9 hA' ns0 hR cb0.1 ca0.1 cb0.2 ca0.2 (x := 0) (Nat.pow_pos (by decide)) g0 gd0 n5
            rw [HS_0] at pab pba
            have vn0 : vn A 0 12 := by rw [HS_0] at g0; exact g0
            have bitab : (s17 24 (rk s1 v1.toInt.toNat)).toInt.toNat.testBit (rk s1 v2.toInt.toNat) = true ↔ PHi s l v1.toInt.toNat v2.toInt.toNat 0 12 := by
              rw [pab, PS_iff ner, ← n7, ← rk0, ← rk0]
              exact n4 _ _ (by omega) (by omega)
            have bitba : (s17 24 (rk s1 v2.toInt.toNat)).toInt.toNat.testBit (rk s1 v1.toInt.toNat) = true ↔ PHi s l v2.toInt.toNat v1.toInt.toNat 0 12 := by
              rw [pba, PS_iff (fun y => ner y.symm), ← n7, ← rk0, ← rk0]
              exact n4 _ _ (by omega) (by omega)
            have r24 : ∀ j, 0 ≤ (s17 24 j).toInt := fun j => by rw [← n7]; exact (rdC24 n1).1
            have hca := cl_i c4.1
            have hcb := cl_i c5.1
            have la1 := rk_lt ca1.2 ca1.1
            have lb1 := rk_lt cb1.2 cb1.1
            have r121 := rk_le s1 12
            have oa := ofn_n (j := rk s1 v1.toInt.toNat) (by omega)
            have ob := ofn_n (j := rk s1 v2.toInt.toNat) (by omega)
            have coa := cl_i (i := Int32.ofNat (rk s1 v1.toInt.toNat)) (by omega)
            have cob := cl_i (i := Int32.ofNat (rk s1 v2.toInt.toNat)) (by omega)
            replace d3 := p_gin d3
            rw [f17 18 (by omega), show v1.toNatClampNeg = v1.toInt.toNat by omega, show v2.toNatClampNeg = v2.toInt.toNat by omega, (mc1.2.1 _ ca1.1 ca1.2).2.1, (mc1.2.1 _ cb1.1 cb1.2).2.1] at d3
            obtain ⟨x21, e21, d4⟩ := p_lt d3
            replace d4 := p_gin d4
            obtain ⟨x23, e23, d5⟩ := p_lt d4
            -- may one stand above another
            have msa : ∀ i j : Nat, i < 12 → j < 12 → ∀ y s', fX9_mayStandAbove (Int32.ofNat i) (Int32.ofNat j) s17 = some (y, s') → s' = s17 ∧ (y = 1 ∧ (s17 24 i).toInt.toNat.testBit j = true ∨ y = 0 ∧ ¬ (s17 24 i).toInt.toNat.testBit j = true) := by
              intro i j hi hj y s' hms
              have oi := ofn_n hi
              have oj := ofn_n hj
              have ci := cl_i (i := Int32.ofNat i) (by omega)
              unfold fX9_mayStandAbove at hms
              replace hms := p_gin hms
              rw [show (Int32.ofNat i).toNatClampNeg = i by omega, isIn_is, bnd2_s] at hms
              replace hms := p_gz hms
              have bi := bit_n (a := s17 24 i) (v := Int32.ofNat j) (r24 i) (by omega) (by omega)
              rw [oj, Int.toNat_natCast] at bi
              by_cases f : ((s17 24 i >>> (Int32.ofNat j &&& 31)) &&& (1 : Int32)) = (1 : Int32)
              · rw [if_pos f] at hms
                cases hms
                exact ⟨rfl, Or.inl ⟨rfl, bi.mp f⟩⟩
              · rw [if_neg f] at hms
                cases hms
                exact ⟨rfl, Or.inr ⟨rfl, fun y => f (bi.mpr y)⟩⟩
            obtain ⟨y24, s25, c25, d6⟩ := p_bnd2 d5
            rw [e21, e23] at c25
            obtain ⟨g25, alt25⟩ := msa _ _ (by omega) (by omega) _ _ c25
            obtain ⟨t1, t2', t3, t4⟩ := tw_out T 4096 0 12 (by omega) vn0 (Nat.zero_testBit _) (Nat.zero_testBit _)
            have wp := W_pos T.sv T.hA T.hR 4096 0 12 (by omega) vn0 q
            have wp2 : Lv l2 0 12 = Lv l 0 12 → 0 < Wv l2 0 12 := fun y => W_pos (s := s2) (by rw [T.e1]; exact T.sv) (by rw [T.e1]; exact T.hA) T.hR2 4096 0 12 (by omega) vn0 (by omega)
            rw [er']
            rcases alt25 with ⟨y1, y2⟩ | ⟨y1, y2⟩
            · rw [y1, ite1] at d6
              have qba := bitba.mp y2
              obtain ⟨y28, s29, c29, d7⟩ := p_bnd2 d6
              rw [e21, e23, g25] at c29
              obtain ⟨g29, alt29⟩ := msa _ _ (by omega) (by omega) _ _ c29
              rcases alt29 with ⟨x1, x2⟩ | ⟨x1, x2⟩
              · rw [x1, ite1] at d7
                cases d7
                have qab := bitab.mp x2
                have eL := (t2' q).mpr qab
                have w4 := t4 q eL
                have := wp2 eL
                rw [if_pos eL, if_neg (fun y => (w4.2.mp y) qba), if_neg (by omega)]
                exact ⟨rfl, by rw [g29]; exact ak17⟩
              · rw [x1, ite0] at d7
                cases d7
                have nab : ¬ Lv l2 0 12 = Lv l 0 12 := fun y => x2 (bitab.mpr ((t2' q).mp y))
                rw [if_neg nab, if_neg (by omega), if_pos rfl]
                exact ⟨rfl, by rw [g29]; exact ak17⟩
            · rw [y1, ite0] at d6
              cases d6
              have nba : ¬ PHi s l v2.toInt.toNat v1.toInt.toNat 0 12 := fun y => y2 (bitba.mpr y)
              have qab : PHi s l v1.toInt.toNat v2.toInt.toNat 0 12 := by
                rcases t3 q with y | y
                · exact y
                · exact absurd y nba
              have eL := (t2' q).mpr qab
              have w4 := t4 q eL
              rw [if_pos eL, if_pos (w4.2.mpr nba)]
              exact ⟨rfl, by rw [g25]; exact ak17⟩
      · rw [if_neg c5, ite0] at e1
        cases e1
        exact ⟨(bad (Or.inr (Or.inr c5))).symm, hA⟩
    · rw [if_neg c4, ite0] at e1
      cases e1
      exact ⟨(bad (Or.inr (Or.inl c4))).symm, hA⟩
end
/-! with agree kept -/
def KSu (sx sm : Sg) (lm : Lg) : Prop := JC sx ∧ NSH sm ∧ HD sx sm ∧ GK sx ∧ AK sx
theorem KSuF : KF KSu := fun sx sm sx' sm' lm hI hJ st same s3 s0 nn => by
  have h := KGF sx sm sx' sm' lm hI ⟨hJ.1, hJ.2.1, hJ.2.2.1, hJ.2.2.2.1⟩ st same s3 s0 nn
  have e4 := same 4 (by decide) (by decide) (by omega) (by omega)
  have g := hJ.2.2.2.2.1
  refine ⟨h.1, h.2.1, h.2.2.1, h.2.2.2, by rw [e4]; omega, fun z => ?_⟩
  rw [e4] at z
  have := congrArg Int32.toInt z
  omega
theorem ksu0 : KSu sgC0 sgM0 lg0 := by
  have a : (sgC0 4 3).toInt = -1 := by decide
  have b : (sgC0 1 1).toInt = 0 := by decide
  exact ⟨kg0.1, kg0.2.1, kg0.2.2.1, kg0.2.2.2, by omega, fun z => by have := congrArg Int32.toInt z; omega⟩
theorem ak_a {M : List Nat} {sx sx' : Sg} {r : Int64} (hA : AK sx) (h : PLC M sx (r, sx')) (hM : ∀ k ∈ M, ¬ (k = 1 ∨ k = 2 ∨ (11 ≤ k ∧ k ≤ 15) ∨ (47 ≤ k ∧ k ≤ 62) ∨ k = 24)) (e4 : sx' 4 3 = sx 4 3) : AK sx' := by
  have f : ∀ k, (k = 1 ∨ k = 2 ∨ (11 ≤ k ∧ k ≤ 15) ∨ (47 ≤ k ∧ k ≤ 62) ∨ k = 24) → sx' k = sx k := fun k hk => h.2 k (fun z => hM k z hk)
  exact AK_cg hA (fun k hk => f k (by unfold flq at hk; omega)) e4 (f 24 (by omega))
theorem ak_l {M : List Nat} {sx sx' : Sg} {r : Int64} (hA : AK sx) (h : PLC M sx (r, sx')) (hM : ∀ k ∈ M, ¬ (k = 1 ∨ k = 2 ∨ (11 ≤ k ∧ k ≤ 15) ∨ (47 ≤ k ∧ k ≤ 62) ∨ k = 24)) (h4 : 4 ∉ M) : AK sx' := ak_a hA h hM (congrFun (h.2 4 h4) 3)
theorem ak_u {sx sx' : Sg} {r : Int64} (hA : AK sx) (h : PUlC sx (r, sx')) : AK sx' := by
  have e : sx' = sx := h
  rw [e]
  exact hA
/-! rings -/
def VRg (e : Nat → Nat → Prop) (L : Nat) (p : Nat → Nat) : Prop := 2 ≤ L ∧ (∀ i, i + 1 < L → e (p i) (p (i + 1))) ∧ e (p (L - 1)) (p 0) ∧ (∀ i, 0 < i → i < L → p 0 < p i) ∧ ∀ i j, i < j → j < L → p i ≠ p j
def LXl (L : Nat) (p q : Nat → Nat) : Prop := (∀ i, i < L → p i = q i) ∨ ∃ k, k < L ∧ (∀ i, i < k → p i = q i) ∧ p k < q k
/-- the ring that is due -/
def LRg (e : Nat → Nat → Prop) (L : Nat) (p : Nat → Nat) : Prop := VRg e L p ∧ (∀ L' q, VRg e L' q → L ≤ L') ∧ ∀ q, VRg e L q → LXl L p q
theorem LXl_anti {L : Nat} {p q : Nat → Nat} (a : LXl L p q) (b : LXl L q p) : ∀ i, i < L → p i = q i := by
  rcases a with a | ⟨k, k1, k2, k3⟩
  · exact a
  · rcases b with b | ⟨m, m1, m2, m3⟩
    · exact fun i hi => (b i hi).symm
    · exfalso
      rcases Nat.lt_trichotomy k m with z | z | z
      · have := m2 k z; omega
      · subst z; omega
      · have := k2 m z; omega
theorem LRg_un {e : Nat → Nat → Prop} {L L' : Nat} {p q : Nat → Nat} (a : LRg e L p) (b : LRg e L' q) : L = L' ∧ ∀ i, i < L → p i = q i := by
  have e1 : L = L' := Nat.le_antisymm (a.2.1 L' q b.1) (b.2.1 L p a.1)
  subst e1
  exact ⟨rfl, LXl_anti (a.2.2 q b.1) (b.2.2 p a.1)⟩
theorem VRg_cg {e : Nat → Nat → Prop} {L : Nat} {p q : Nat → Nat} (h : VRg e L p) (g : ∀ i, i < L → q i = p i) : VRg e L q := by
  obtain ⟨h1, h2, h3, h4, h5⟩ := h
  refine ⟨h1, fun i hi => ?_, ?_, fun i a b => ?_, fun i j a b => ?_⟩
  · rw [g i (by omega), g (i + 1) hi]; exact h2 i hi
  · rw [g (L - 1) (by omega), g 0 (by omega)]; exact h3
  · rw [g i b, g 0 (by omega)]; exact h4 i a b
  · rw [g i (by omega), g j b]; exact h5 i j a b
theorem VRg_in {e : Nat → Nat → Prop} {L N : Nat} {p : Nat → Nat} (hN : ∀ a b, e a b → a < N ∧ b < N) (h : VRg e L p) : ∀ i, i < L → p i < N := by
  intro i hi
  by_cases c : i + 1 < L
  · exact (hN _ _ (h.2.1 i c)).1
  · have : i = L - 1 := by omega
    rw [this]; exact (hN _ _ h.2.2.1).1
/-- no more places than there are -/
theorem inj_le {N : Nat} {p : Nat → Nat} : ∀ L, (∀ i, i < L → p i < N) → (∀ i j, i < j → j < L → p i ≠ p j) → L ≤ cnp (fun v => ∃ i, i < L ∧ p i = v) N
  | 0, _, _ => Nat.zero_le _
  | L + 1, h1, h2 => by
    have ih := inj_le L (fun i hi => h1 i (by omega)) (fun i j a b => h2 i j a (by omega))
    have lt := cnp_lt (p := fun v => ∃ i, i < L ∧ p i = v) (q := fun v => ∃ i, i < L + 1 ∧ p i = v) (i := p L) (fun z => by
      obtain ⟨i, a, b⟩ := z
      exact h2 i L a (by omega) b) ⟨L, by omega, rfl⟩ N (h1 L (by omega)) (fun j _ z => by
      obtain ⟨i, a, b⟩ := z
      exact ⟨i, by omega, b⟩)
    omega
theorem VRg_len {e : Nat → Nat → Prop} {L N : Nat} {p : Nat → Nat} (hN : ∀ a b, e a b → a < N ∧ b < N) (h : VRg e L p) : L ≤ N := by
  have a := inj_le L (VRg_in hN h) h.2.2.2.2
  have b := cnp_bd (p := fun v => ∃ i, i < L ∧ p i = v) N
  omega
/-! the ways back to the start -/
section
variable {e : Nat → Nat → Prop} {s : Nat}
def Dk (e : Nat → Nat → Prop) (s : Nat) : Nat → Nat → Prop
  | 0, x => x = s
  | k + 1, x => ∃ y, e x y ∧ Dk e s k y ∧ (k = 0 ∨ s < y)
/-- the k-th layer -/
def Ly (e : Nat → Nat → Prop) (s k x : Nat) : Prop := s < x ∧ Dk e s k x ∧ ∀ k', 0 < k' → k' < k → ¬ Dk e s k' x
theorem Ly_next {k x : Nat} (h : Ly e s (k + 2) x) : ∃ y, e x y ∧ Ly e s (k + 1) y := by
  obtain ⟨h1, ⟨y, a, b, c⟩, h3⟩ := h
  have c' : s < y := by
    rcases c with c | c
    · omega
    · exact c
  refine ⟨y, a, c', b, fun k' k0 k1 z => ?_⟩
  exact h3 (k' + 1) (by omega) (by omega) ⟨y, a, z, Or.inr c'⟩
/-- there is a least way back -/
theorem Ly_of {x : Nat} (hs : s < x) : ∀ k, 0 < k → Dk e s k x → ∃ k', 0 < k' ∧ k' ≤ k ∧ Ly e s k' x := by
  intro k
  induction k using Nat.strongRecOn with
  | _ k ih =>
    intro k0 d
    by_cases c : ∃ k', 0 < k' ∧ k' < k ∧ Dk e s k' x
    · obtain ⟨k', a, b, z⟩ := c
      obtain ⟨k2, u, v, w⟩ := ih k' b a z
      exact ⟨k2, u, by omega, w⟩
    · exact ⟨k, k0, Nat.le_refl _, hs, d, fun k' a b z => c ⟨k', a, b, z⟩⟩
/-- a layer that is empty ends all -/
theorem Ly_down {f : Nat} (hf : 0 < f) (em : ∀ x, ¬ Ly e s f x) : ∀ d x, ¬ Ly e s (f + d) x
  | 0, x => em x
  | d + 1, x => fun z => by
    have z' : Ly e s ((f + d - 1) + 2) x := by rw [show f + d - 1 + 2 = f + (d + 1) by omega]; exact z
    obtain ⟨y, -, w⟩ := Ly_next z'
    rw [show f + d - 1 + 1 = f + d by omega] at w
    exact Ly_down hf em d y w
theorem Ly_one {k k' x : Nat} (a : Ly e s k x) (b : Ly e s k' x) (k0 : 0 < k) (k0' : 0 < k') : k = k' := by
  rcases Nat.lt_trichotomy k k' with z | z | z
  · exact absurd a.2.1 (b.2.2 k k0 z)
  · exact z
  · exact absurd b.2.1 (a.2.2 k' k0' z)
/-- a ring is a way back -/
theorem VRg_D {L : Nat} {p : Nat → Nat} (h : VRg e L p) (h0 : p 0 = s) : ∀ d i, 0 < i → i + d + 1 = L → Dk e s (d + 1) (p i)
  | 0, i, hi, hd => by
    have : i = L - 1 := by omega
    rw [this]
    exact ⟨s, by rw [← h0]; exact h.2.2.1, rfl, Or.inl rfl⟩
  | d + 1, i, hi, hd => ⟨p (i + 1), h.2.1 i (by omega), VRg_D h h0 d (i + 1) (by omega) (by omega), Or.inr (by rw [← h0]; exact h.2.2.2.1 (i + 1) (by omega) (by omega))⟩
/-- along a ring from its start: the way back of a later one is one of an earlier -/
theorem VRg_back {L : Nat} {p : Nat → Nat} (h : VRg e L p) (h0 : p 0 = s) {k : Nat} (k0 : 0 < k) : ∀ i, 0 < i → i < L → Dk e s k (p i) → Dk e s (k + (i - 1)) (p 1)
  | 0, hi, _, _ => absurd hi (Nat.lt_irrefl _)
  | 1, _, _, d => d
  | i + 2, _, hl, d => by
    have st : Dk e s (k + 1) (p (i + 1)) := ⟨p (i + 2), h.2.1 (i + 1) (by omega), d, Or.inr (by rw [← h0]; exact h.2.2.2.1 (i + 2) (by omega) hl)⟩
    have := VRg_back h h0 (k := k + 1) (by omega) (i + 1) (by omega) (by omega) st
    rw [show k + 1 + (i + 1 - 1) = k + (i + 2 - 1) by omega] at this
    exact this
/-- no shorter ring from here: each place of a ring stands in its own layer -/
theorem VRg_ly {L : Nat} {p : Nat → Nat} (h : VRg e L p) (h0 : p 0 = s) (min : ∀ k x, 0 < k → k + 1 < L → Ly e s k x → ¬ e s x) : ∀ i, 0 < i → i < L → Ly e s (L - i) (p i) := by
  intro i i0 iL
  have hs : s < p i := by rw [← h0]; exact h.2.2.2.1 i i0 iL
  have d := VRg_D h h0 (L - i - 1) i i0 (by omega)
  rw [show L - i - 1 + 1 = L - i by omega] at d
  refine ⟨hs, d, fun k' k0 k1 z => ?_⟩
  have b := VRg_back h h0 k0 i i0 iL z
  have hs1 : s < p 1 := by rw [← h0]; exact h.2.2.2.1 1 (by omega) (by omega)
  obtain ⟨k2, u, v, w⟩ := Ly_of hs1 _ (by omega) b
  refine min k2 (p 1) u (by omega) w ?_
  rw [← h0]
  exact h.2.1 0 (by omega)
/-- a ring is no shorter than the first layer that the start leads to -/
theorem VRg_min {L : Nat} {p : Nat → Nat} (h : VRg e L p) (h0 : p 0 = s) : ∃ k x, 0 < k ∧ k + 1 ≤ L ∧ Ly e s k x ∧ e s x := by
  have d := VRg_D h h0 (L - 2) 1 (by omega) (by have := h.1; omega)
  have hs1 : s < p 1 := by rw [← h0]; exact h.2.2.2.1 1 (by omega) (by have := h.1; omega)
  obtain ⟨k2, u, v, w⟩ := Ly_of hs1 _ (by omega) d
  refine ⟨k2, p 1, u, by have := h.1; omega, w, ?_⟩
  rw [← h0]
  exact h.2.1 0 (by have := h.1; omega)
/-- what goes down through the layers is a ring, and the first of them -/
theorem trace_ring {L : Nat} {p : Nat → Nat} (hL : 2 ≤ L) (h0 : p 0 = s) (min : ∀ k x, 0 < k → k + 1 < L → Ly e s k x → ¬ e s x) (hp : ∀ i, 0 < i → i < L → e (p (i - 1)) (p i) ∧ Ly e s (L - i) (p i) ∧ ∀ y, e (p (i - 1)) y → Ly e s (L - i) y → p i ≤ y) : VRg e L p ∧ ∀ q, VRg e L q → q 0 = s → LXl L p q := by
  have vr : VRg e L p := by
    refine ⟨hL, fun i hi => ?_, ?_, fun i i0 iL => ?_, fun i j hij hj => ?_⟩
    · have := (hp (i + 1) (by omega) hi).1
      rw [show i + 1 - 1 = i by omega] at this
      exact this
    · have l := (hp (L - 1) (by omega) (by omega)).2.1
      rw [show L - (L - 1) = 1 by omega] at l
      obtain ⟨y, a, b, -⟩ := l.2.1
      have b' : y = s := b
      rw [b'] at a
      rw [h0]; exact a
    · rw [h0]; exact (hp i i0 iL).2.1.1
    · by_cases c : i = 0
      · rw [c, h0]
        have := (hp j (by omega) hj).2.1.1
        omega
      · intro z
        have a := (hp i (by omega) (by omega)).2.1
        have b := (hp j (by omega) hj).2.1
        rw [z] at a
        have := Ly_one a b (by omega) (by omega)
        omega
  refine ⟨vr, fun q hq q0 => ?_⟩
  have ql := VRg_ly hq q0 min
  -- the first place at which they differ
  have key : ∀ n, n ≤ L → (∀ i, i < n → p i = q i) ∨ ∃ k, k < n ∧ (∀ i, i < k → p i = q i) ∧ p k < q k := by
    intro n
    induction n with
    | zero => intro _; exact Or.inl (fun i hi => absurd hi (Nat.not_lt_zero _))
    | succ n ih =>
      intro hn
      rcases ih (by omega) with a | ⟨k, a, b, c⟩
      · by_cases z : p n = q n
        · refine Or.inl (fun i hi => ?_)
          by_cases w : i = n
          · rw [w]; exact z
          · exact a i (by omega)
        · refine Or.inr ⟨n, by omega, a, ?_⟩
          by_cases w : n = 0
          · rw [w, h0, q0] at z; exact absurd rfl z
          · have ed := hq.2.1 (n - 1) (by omega)
            rw [show n - 1 + 1 = n by omega, ← a (n - 1) (by omega)] at ed
            have := (hp n (by omega) (by omega)).2.2 (q n) ed (ql n (by omega) (by omega))
            omega
      · exact Or.inr ⟨k, by omega, b, c⟩
  rcases key L (Nat.le_refl _) with a | ⟨k, a, b, c⟩
  · exact Or.inl a
  · exact Or.inr ⟨k, a, b, c⟩
end
/-! rings: the class's layers -/
theorem bcv_least : ∀ a : Nat, a < 64 → ∀ b : Nat, b < 64 → 64 * a + b = 0 ∨ ((64 * a + b).testBit (bcv ((Int32.ofNat (64 * a + b) &&& (-Int32.ofNat (64 * a + b))) - (1 : Int32))).toInt.toNat = true ∧ (64 * a + b) % 2 ^ (bcv ((Int32.ofNat (64 * a + b) &&& (-Int32.ofNat (64 * a + b))) - (1 : Int32))).toInt.toNat = 0) := by decide +kernel
theorem leastOf_is {v0 : Int32} {sg : Sg} (l0 : 0 ≤ v0.toInt) (l1 : v0.toInt ≤ 4095) (ne : ∃ j, v0.toInt.toNat.testBit j = true) : ∃ y, fX10_leastOf v0 sg = some (y, sg) ∧ 0 ≤ y.toInt ∧ y.toInt ≤ 11 ∧ v0.toInt.toNat.testBit y.toInt.toNat = true ∧ ∀ j, v0.toInt.toNat.testBit j = true → y.toInt.toNat ≤ j := by
  have k0 : (0 : Int32).toInt = 0 := by decide
  have c : ¬ v0 = 0 := fun z => by
    obtain ⟨j, hj⟩ := ne
    rw [z, k0, show (0 : Int).toNat = 0 from rfl, Nat.zero_testBit] at hj
    cases hj
  have e := of_i l0
  have e2 : v0.toInt.toNat = 64 * (v0.toInt.toNat / 64) + v0.toInt.toNat % 64 := by omega
  have h1 := bcv_low (v0.toInt.toNat / 64) (by omega) (v0.toInt.toNat % 64) (by omega)
  have h2 := bcv_nn (v0.toInt.toNat / 64) (by omega) (v0.toInt.toNat % 64) (by omega)
  have h3 := bcv_least (v0.toInt.toNat / 64) (by omega) (v0.toInt.toNat % 64) (by omega)
  rw [← e2, ← e] at h1 h2 h3
  have nz : ¬ v0.toInt.toNat = 0 := fun z => c (Int32.toInt_inj.mp (by omega))
  refine ⟨bcv ((v0 &&& (-v0)) - (1 : Int32)), ?_, h2, by omega, ?_, fun j hj => ?_⟩
  · unfold fX10_leastOf
    rw [if_neg c, bcv_is]
    rfl
  · rcases h3 with z | z
    · exact absurd z nz
    · exact z.1
  · rcases h3 with z | z
    · exact absurd z nz
    · refine Nat.not_lt.mp (fun w => ?_)
      obtain ⟨K, hK⟩ : ∃ K, K = (bcv ((v0 &&& (-v0)) - (1 : Int32))).toInt.toNat := ⟨_, rfl⟩
      rw [← hK] at z w
      have m := Nat.testBit_mod_two_pow v0.toInt.toNat K j
      rw [z.2, Nat.zero_testBit, decide_eq_true w, hj] at m
      cases m
theorem fresh_all : ∀ n : Nat, n < 13 → ∀ v : Nat, v < 12 → 0 ≤ (Int32.ofNat (2 ^ n - 1) &&& (-((2 : Int32) <<< (Int32.ofNat v &&& 31)))).toInt ∧ (Int32.ofNat (2 ^ n - 1) &&& (-((2 : Int32) <<< (Int32.ofNat v &&& 31)))).toInt ≤ 4095 ∧ ∀ j : Nat, j < 12 → (Int32.ofNat (2 ^ n - 1) &&& (-((2 : Int32) <<< (Int32.ofNat v &&& 31)))).toInt.toNat.testBit j = decide (j < n ∧ v < j) := by decide +kernel
theorem all_is2 {sg : Sg} (hn : 0 ≤ (sg 3 2).toInt ∧ (sg 3 2).toInt ≤ 12) : ∃ x, fX8_all sg = some (x, sg) ∧ x.toInt = ((2 ^ (sg 3 2).toInt.toNat : Nat) : Int) - 1 ∧ x.toInt.toNat = 2 ^ (sg 3 2).toInt.toNat - 1 := by
  have s := shl_is (v := sg 3 2) hn.1 (by omega)
  have p : 0 < 2 ^ (sg 3 2).toInt.toNat := Nat.pow_pos (by decide)
  have q : 2 ^ (sg 3 2).toInt.toNat ≤ 2 ^ 12 := Nat.pow_le_pow_right (by decide) (by omega)
  have e12 : (2 : Nat) ^ 12 = 4096 := by decide
  have f := sub_c (a := (1 : Int32) <<< (sg 3 2 &&& 31)) (b := (1 : Int32)) 1 (by decide) (by omega) (by omega)
  exact ⟨_, rfl, by omega, by omega⟩
section
variable {B : Sg} {n : Nat}
def eS (B : Sg) (n i j : Nat) : Prop := i < n ∧ j < n ∧ 0 < (B 40 (12 * i + j)).toInt
/-- the sets of who pecks whom -/
def PBt (B : Sg) (n : Nat) : Prop := (∀ i, i < n → 0 ≤ (B 41 i).toInt ∧ (B 41 i).toInt ≤ 4095 ∧ 0 ≤ (B 42 i).toInt ∧ (B 42 i).toInt ≤ 4095) ∧ (∀ i j, i < n → ((B 41 i).toInt.toNat.testBit j = true ↔ eS B n i j)) ∧ ∀ i j, j < n → ((B 42 j).toInt.toNat.testBit i = true ↔ eS B n i j)
/-- only layers and found have changed -/
def F43 (B t : Sg) : Prop := (∀ c, c ≠ 43 → c ≠ 44 → t c = B c) ∧ (∀ j, 0 ≤ (t 43 j).toInt ∧ (t 43 j).toInt ≤ 4095) ∧ ∀ j, 0 ≤ (t 44 j).toInt ∧ (t 44 j).toInt ≤ 11
set_option maxHeartbeats 4000000 in
theorem c_peckers {t : Sg} {v1 : Int32} (hn : (B 3 2).toInt = (n : Int)) (n12 : n ≤ 12) (hp : PBt B n) (ht : F43 B t) (a0 : 0 ≤ v1.toInt) : Ok (fun q => q.2 = t ∧ 0 ≤ q.1.toInt ∧ q.1.toInt ≤ 4095 ∧ ∀ i, q.1.toInt.toNat.testBit i = true ↔ ∃ j, j < n ∧ v1.toInt.toNat.testBit j = true ∧ eS B n i j) (fX10_peckersOfSet v1 t) := by
  have k0 : (0 : Int32).toInt = 0 := by decide
  unfold fX10_peckersOfSet LX10_peckersOfSet_4
  refine ok_loop (I := fun (q : Int32 × Int32 × Int32 × Sg) => q.1 = v1 ∧ 0 ≤ q.2.1.toInt ∧ q.2.1.toInt ≤ 4095 ∧ 0 ≤ q.2.2.1.toInt ∧ q.2.2.1.toInt ≤ (n : Int) ∧ q.2.2.2 = t ∧ ∀ i, q.2.1.toInt.toNat.testBit i = true ↔ ∃ j : Nat, (j : Int) < q.2.2.1.toInt ∧ v1.toInt.toNat.testBit j = true ∧ eS B n i j) (m := fun (q : Int32 × Int32 × Int32 × Sg) => (13 - q.2.2.1.toInt).toNat) _ ?_ ?_ _ ?_
  · intro q hq
    have := hq.2.2.2.1
    show (13 - q.2.2.1.toInt).toNat < 10000
    omega
  · intro rec q hq hrec
    obtain ⟨q1, v2, v3, t'⟩ := q
    replace hq : q1 = v1 ∧ 0 ≤ v2.toInt ∧ v2.toInt ≤ 4095 ∧ 0 ≤ v3.toInt ∧ v3.toInt ≤ (n : Int) ∧ t' = t ∧ ∀ i, v2.toInt.toNat.testBit i = true ↔ ∃ j : Nat, (j : Int) < v3.toInt ∧ v1.toInt.toNat.testBit j = true ∧ eS B n i j := hq
    obtain ⟨e1, o0, o1, b0, b1, e2, hb⟩ := hq
    rw [e1, e2]
    show Ok _ (fX10_peckersOfSet_4 rec v1 v2 v3 t)
    unfold fX10_peckersOfSet_4
    rw [ht.1 3 (by decide) (by decide)]
    have hc3 := cl_i b0
    have go : ∀ w : Int32, v3.toInt < (n : Int) → 0 ≤ w.toInt → w.toInt ≤ 4095 → (∀ i, w.toInt.toNat.testBit i = true ↔ ∃ j : Nat, (j : Int) < v3.toInt + 1 ∧ v1.toInt.toNat.testBit j = true ∧ eS B n i j) → Ok (fun q => q.2 = t ∧ 0 ≤ q.1.toInt ∧ q.1.toInt ≤ 4095 ∧ ∀ i, q.1.toInt.toNat.testBit i = true ↔ ∃ j, j < n ∧ v1.toInt.toNat.testBit j = true ∧ eS B n i j) (fX10_peckersOfSet_32 rec v1 w v3 t) := by
      intro w g0 g1 g2 g3
      unfold fX10_peckersOfSet_32
      refine ok_lt (fun x e => ?_)
      replace e : x.toInt = v3.toInt + 1 := by rw [e]; exact add_c 1 (by decide) (by omega) (by omega)
      refine hrec (v1, w, x, t) ⟨rfl, g1, g2, by show 0 ≤ x.toInt; omega, by show x.toInt ≤ (n : Int); omega, rfl, fun i => ?_⟩ (show (13 - x.toInt).toNat < (13 - v3.toInt).toNat by omega)
      show w.toInt.toNat.testBit i = true ↔ ∃ j : Nat, (j : Int) < x.toInt ∧ _
      rw [e]; exact g3 i
    refine ok_ite (fun c => ?_) (fun c => ?_)
    · replace c := i_le.mp c
      rw [hn] at c
      refine ok_some ⟨rfl, o0, o1, fun i => ?_⟩
      show v2.toInt.toNat.testBit i = true ↔ _
      rw [hb i]
      constructor
      · rintro ⟨j, z1, z2⟩; exact ⟨j, by omega, z2⟩
      · rintro ⟨j, z1, z2⟩; exact ⟨j, by omega, z2⟩
    · replace c := i_nle.mp c
      rw [hn] at c
      refine bnd2_of isIn_is ?_
      have bi := bit_n (a := v1) (v := v3) a0 b0 (by omega)
      by_cases f : ((v1 >>> (v3 &&& 31)) &&& (1 : Int32)) = (1 : Int32)
      · rw [if_pos f, ite1]
        have vf := bi.mp f
        refine ok_gin (by omega) (by omega) ?_
        rw [ht.1 42 (by decide) (by decide), show v3.toNatClampNeg = v3.toInt.toNat by omega]
        have r := hp.1 v3.toInt.toNat (by omega)
        have on := or_n o0 o1 r.2.2.1 r.2.2.2
        refine ok_lt (fun x8 e8 => ?_)
        rw [← e8] at on
        refine go x8 c on.2.1 on.2.2 (fun i => ?_)
        rw [on.1, Nat.testBit_or, Bool.or_eq_true, hb i, hp.2.2 i v3.toInt.toNat (by omega)]
        constructor
        · rintro (⟨j, z1, z2⟩ | z)
          · exact ⟨j, by omega, z2⟩
          · exact ⟨v3.toInt.toNat, by omega, vf, z⟩
        · rintro ⟨j, z1, z2, z3⟩
          by_cases w : j = v3.toInt.toNat
          · rw [w] at z3; exact Or.inr z3
          · exact Or.inl ⟨j, by omega, z2, z3⟩
      · rw [if_neg f, ite0]
        refine go v2 c o0 o1 (fun i => ?_)
        rw [hb i]
        constructor
        · rintro ⟨j, z1, z2⟩; exact ⟨j, by omega, z2⟩
        · rintro ⟨j, z1, z2, z3⟩
          refine ⟨j, ?_, z2, z3⟩
          have : j ≠ v3.toInt.toNat := fun y => by rw [y] at z2; exact f (bi.mpr z2)
          omega
  · refine ⟨rfl, by show 0 ≤ (0 : Int32).toInt; omega, by show (0 : Int32).toInt ≤ 4095; omega, by show 0 ≤ (0 : Int32).toInt; omega, by show (0 : Int32).toInt ≤ (n : Int); omega, rfl, fun i => ?_⟩
    show (0 : Int32).toInt.toNat.testBit i = true ↔ ∃ j : Nat, (j : Int) < (0 : Int32).toInt ∧ _
    rw [k0, show (0 : Int).toNat = 0 from rfl, Nat.zero_testBit]
    constructor
    · intro z; cases z
    · rintro ⟨j, z, -⟩; omega
/-- what lengthFrom answers -/
def LFq (B t0 : Sg) (n s : Nat) (bl : Int) (q : Int32 × Sg) : Prop := F43 B q.2 ∧ (q.2 44 = t0 44) ∧ ((q.1 = 0 ∧ ∀ L p, VRg (eS B n) L p → p 0 = s → bl ≤ (L : Int)) ∨ ∃ L, 2 ≤ L ∧ q.1 = Int32.ofNat L ∧ (L : Int) < bl ∧ L ≤ 12 ∧ (∀ k x, 0 < k → k + 1 < L → Ly (eS B n) s k x → ¬ eS B n s x) ∧ (∃ x, Ly (eS B n) s (L - 1) x ∧ eS B n s x) ∧ ∀ k j, 0 < k → k < L → ((q.2 43 k).toInt.toNat.testBit j = true ↔ Ly (eS B n) s k j))
set_option maxHeartbeats 4000000 in
theorem c_length {t0 : Sg} {v1 v2 : Int32} (hn : (B 3 2).toInt = (n : Int)) (n12 : n ≤ 12) (hp : PBt B n) (ht0 : F43 B t0) (a0 : 0 ≤ v1.toInt) (a1 : v1.toInt < (n : Int)) (bl0 : 0 ≤ v2.toInt) (bl1 : v2.toInt ≤ 13) : Ok (LFq B t0 n v1.toInt.toNat v2.toInt) (fX10_lengthFrom v1 v2 t0) := by
  have k0 : (0 : Int32).toInt = 0 := by decide
  have k1 : (1 : Int32).toInt = 1 := by decide
  have k12 : (12 : Int32).toInt = 12 := by decide
  have hc1 := cl_i a0
  have eN : ∀ a b, eS B n a b → a < n ∧ b < n := fun a b z => ⟨z.1, z.2.1⟩
  obtain ⟨y, ey, y1, y2⟩ := all_is2 (sg := t0) (by rw [ht0.1 3 (by decide) (by decide)]; omega)
  have en : (t0 3 2).toInt.toNat = n := by rw [ht0.1 3 (by decide) (by decide), hn]; rfl
  rw [en] at y1 y2
  have ny : y = Int32.ofNat (2 ^ n - 1) := by
    have p2 : 0 < 2 ^ n := Nat.pow_pos (by decide)
    have := of_i (v := y) (by omega)
    rw [y2] at this
    exact this
  have e1 := of_i a0
  have fa := fresh_all n (by omega) v1.toInt.toNat (by omega)
  rw [← ny, ← e1] at fa
  unfold fX10_lengthFrom
  refine bnd2_of ey ?_
  refine ok_lt (fun x4 e4 => ?_)
  rw [← e4] at fa
  refine ok_lt (fun x5 e5 => ?_)
  have sh := shl_is (v := v1) a0 (by omega)
  have sh2 := shl_i (v := v1) 11 2048 (by decide) (by decide) a0 (by omega)
  rw [← e5] at sh sh2
  refine ok_gin (by decide) (by decide) ?_
  refine ok_lt (fun s7 e7 => ?_)
  rw [show (0 : Int32).toNatClampNeg = 0 by decide] at e7
  have ht7 : F43 B s7 := by
    refine ⟨fun c h3 h4 => by rw [e7, up2_n h3]; exact ht0.1 c h3 h4, fun j => ?_, fun j => by rw [e7, up2_n (by decide)]; exact ht0.2.2 j⟩
    by_cases w : j = 0
    · rw [w, e7, up2_e]; omega
    · rw [e7, up2_o (Or.inr w)]; exact ht0.2.1 j
  have fb : ∀ j, x4.toInt.toNat.testBit j = true ↔ (j < n ∧ v1.toInt.toNat < j) := fun j => by
    by_cases w : j < 12
    · rw [fa.2.2 j w, decide_eq_true_eq]
    · constructor
      · intro z
        have p12 : x4.toInt.toNat < 2 ^ 12 := by rw [show (2 : Nat) ^ 12 = 4096 by decide]; omega
        rw [tb_hi p12 (by omega)] at z
        cases z
      · intro z; omega
  unfold LX10_lengthFrom_25
  refine ok_loop (I := fun (q : Int32 × Int32 × Int32 × Int32 × Sg) => q.1 = v1 ∧ q.2.1 = v2 ∧ 0 ≤ q.2.2.1.toInt ∧ q.2.2.1.toInt ≤ 4095 ∧ 1 ≤ q.2.2.2.1.toInt ∧ q.2.2.2.1.toInt ≤ 12 ∧ F43 B q.2.2.2.2 ∧ q.2.2.2.2 44 = t0 44 ∧ (∀ j, q.2.2.1.toInt.toNat.testBit j = true ↔ (j < n ∧ v1.toInt.toNat < j ∧ ∀ k, 0 < k → k < q.2.2.2.1.toInt.toNat → ¬ Dk (eS B n) v1.toInt.toNat k j)) ∧ (∀ j, (q.2.2.2.2 43 0).toInt.toNat.testBit j = true ↔ j = v1.toInt.toNat) ∧ (∀ k j, 0 < k → k < q.2.2.2.1.toInt.toNat → ((q.2.2.2.2 43 k).toInt.toNat.testBit j = true ↔ Ly (eS B n) v1.toInt.toNat k j)) ∧ ∀ k x, 0 < k → k < q.2.2.2.1.toInt.toNat → Ly (eS B n) v1.toInt.toNat k x → ¬ eS B n v1.toInt.toNat x) (m := fun (q : Int32 × Int32 × Int32 × Int32 × Sg) => (13 - q.2.2.2.1.toInt).toNat) _ ?_ ?_ _ ?_
  · intro q hq
    have := hq.2.2.2.2.1
    show (13 - q.2.2.2.1.toInt).toNat < 10000
    omega
  · intro rec q hq hrec
    obtain ⟨q1, q2, v3, v4, t⟩ := q
    replace hq : q1 = v1 ∧ q2 = v2 ∧ 0 ≤ v3.toInt ∧ v3.toInt ≤ 4095 ∧ 1 ≤ v4.toInt ∧ v4.toInt ≤ 12 ∧ F43 B t ∧ t 44 = t0 44 ∧ (∀ j, v3.toInt.toNat.testBit j = true ↔ (j < n ∧ v1.toInt.toNat < j ∧ ∀ k, 0 < k → k < v4.toInt.toNat → ¬ Dk (eS B n) v1.toInt.toNat k j)) ∧ (∀ j, (t 43 0).toInt.toNat.testBit j = true ↔ j = v1.toInt.toNat) ∧ (∀ k j, 0 < k → k < v4.toInt.toNat → ((t 43 k).toInt.toNat.testBit j = true ↔ Ly (eS B n) v1.toInt.toNat k j)) ∧ ∀ k x, 0 < k → k < v4.toInt.toNat → Ly (eS B n) v1.toInt.toNat k x → ¬ eS B n v1.toInt.toNat x := hq
    obtain ⟨q1e, q2e, f0, f1, b0, b1, ht, e44, hf, h0, hl, hm⟩ := hq
    rw [q1e, q2e]
    show Ok _ (fX10_lengthFrom_25 rec v1 v2 v3 v4 t)
    unfold fX10_lengthFrom_25
    have hc4 := cl_i (i := v4) (by omega)
    have ad := add_c (a := v4) (b := (1 : Int32)) 1 (by decide) (by omega) (by omega)
    -- none shorter
    have none : (∀ L p, VRg (eS B n) L p → p 0 = v1.toInt.toNat → v2.toInt ≤ (L : Int)) → Ok (LFq B t0 n v1.toInt.toNat v2.toInt) (some ((0 : Int32), t)) := fun z => ok_some ⟨ht, e44, Or.inl ⟨rfl, z⟩⟩
    refine ok_ite (fun c => ?_) (fun c => ?_)
    · replace c := i_le.mp c
      rw [ad] at c
      refine none (fun L p hv hp0 => ?_)
      obtain ⟨k, x, w1, w2, w3, w4⟩ := VRg_min hv hp0
      refine Int.not_lt.mp (fun z => hm k x w1 (by omega) w3 w4)
    · replace c := i_nle.mp c
      rw [ad] at c
      refine ok_ite (fun d => ?_) (fun d => ?_)
      · replace d := i_le.mp d
        refine none (fun L p hv hp0 => ?_)
        obtain ⟨k, x, w1, w2, w3, w4⟩ := VRg_min hv hp0
        have := VRg_len eN hv
        exact absurd w4 (hm k x w1 (by omega) w3)
      · replace d := i_nle.mp d
        have sb := sub_c (a := v4) (b := (1 : Int32)) 1 (by decide) (by omega) (by omega)
        refine ok_lt (fun x3 g3 => ?_)
        rw [← g3] at sb
        have hc3 := cl_i (i := x3) (by omega)
        refine ok_gin (by omega) (by omega) ?_
        rw [show x3.toNatClampNeg = v4.toInt.toNat - 1 by omega]
        refine ok_bnd2 (c_peckers (v1 := t 43 (v4.toInt.toNat - 1)) hn n12 hp ht (ht.2.1 _).1) (fun y5 s6 h6 => ?_)
        obtain ⟨g5, o0, o1, ob⟩ := h6
        replace g5 : s6 = t := g5
        replace o0 : 0 ≤ y5.toInt := o0
        replace o1 : y5.toInt ≤ 4095 := o1
        replace ob : ∀ i, y5.toInt.toNat.testBit i = true ↔ ∃ j, j < n ∧ (t 43 (v4.toInt.toNat - 1)).toInt.toNat.testBit j = true ∧ eS B n i j := ob
        rw [g5]
        have an := and_n o0 f0
        have al := and_l (a := y5) (b := v3) o0
        refine ok_lt (fun x8 e8 => ?_)
        rw [← e8] at an al
        -- the new layer
        have lay : ∀ j, x8.toInt.toNat.testBit j = true ↔ Ly (eS B n) v1.toInt.toNat v4.toInt.toNat j := by
          intro j
          rw [an.1, Nat.testBit_and, Bool.and_eq_true, ob j, hf j]
          constructor
          · rintro ⟨⟨z, z1, z2, z3⟩, z4, z5, z6⟩
            refine ⟨z5, ?_, z6⟩
            by_cases w : v4.toInt.toNat = 1
            · rw [w] at z2 ⊢
              rw [show 1 - 1 = 0 from rfl, h0 z] at z2
              rw [z2] at z3
              exact ⟨v1.toInt.toNat, z3, rfl, Or.inl rfl⟩
            · have ly := (hl (v4.toInt.toNat - 1) z (by omega) (by omega)).mp z2
              rw [show v4.toInt.toNat = v4.toInt.toNat - 1 + 1 by omega]
              exact ⟨z, z3, ly.2.1, Or.inr ly.1⟩
          · intro ly
            have ex : ∃ z, z < n ∧ (t 43 (v4.toInt.toNat - 1)).toInt.toNat.testBit z = true ∧ eS B n j z := by
              by_cases w : v4.toInt.toNat = 1
              · rw [w] at ly ⊢
                obtain ⟨z, z1, z2, -⟩ := ly.2.1
                have z2' : z = v1.toInt.toNat := z2
                refine ⟨z, z1.2.1, ?_, z1⟩
                rw [show 1 - 1 = 0 from rfl, h0 z]
                exact z2'
              · have ly' : Ly (eS B n) v1.toInt.toNat ((v4.toInt.toNat - 2) + 2) j := by rw [show v4.toInt.toNat - 2 + 2 = v4.toInt.toNat by omega]; exact ly
                obtain ⟨z, z1, z2⟩ := Ly_next ly'
                rw [show v4.toInt.toNat - 2 + 1 = v4.toInt.toNat - 1 by omega] at z2
                exact ⟨z, z1.2.1, (hl _ z (by omega) (by omega)).mpr z2, z1⟩
            obtain ⟨z, z1, z2, z3⟩ := ex
            exact ⟨⟨z, z1, z2, z3⟩, z3.1, ly.1, ly.2.2⟩
        refine ok_gin (by omega) (by omega) ?_
        refine ok_lt (fun s10 e10 => ?_)
        rw [show v4.toNatClampNeg = v4.toInt.toNat by omega] at e10
        have ht10 : F43 B s10 := by
          refine ⟨fun c h3 h4 => by rw [e10, up2_n h3]; exact ht.1 c h3 h4, fun j => ?_, fun j => by rw [e10, up2_n (by decide)]; exact ht.2.2 j⟩
          by_cases w : j = v4.toInt.toNat
          · rw [w, e10, up2_e]; omega
          · rw [e10, up2_o (Or.inr w)]; exact ht.2.1 j
        have e44' : s10 44 = t0 44 := by rw [e10, up2_n (by decide)]; exact e44
        have e43 : s10 43 v4.toInt.toNat = x8 := by rw [e10, up2_e]
        rw [show v4.toNatClampNeg = v4.toInt.toNat by omega, e43]
        refine ok_gin (by omega) (by omega) ?_
        have cp := tb_cpl (y := v3) (v := x8) f0 an.2
        have al2 := and_l (a := v3) (b := x8 ^^^ (-1 : Int32)) f0
        refine ok_lt (fun x12 e12 => ?_)
        rw [← e12] at cp al2
        refine ok_gin (by omega) (by omega) ?_
        have layers : ∀ k j, 0 < k → k < v4.toInt.toNat + 1 → ((s10 43 k).toInt.toNat.testBit j = true ↔ Ly (eS B n) v1.toInt.toNat k j) := fun k j h1 h2 => by
          by_cases w : k = v4.toInt.toNat
          · rw [w, e43]; exact lay j
          · rw [e10, up2_o (Or.inr w)]; exact hl k j h1 (by omega)
        refine ok_ite (fun f => ?_) (fun f => ?_)
        · -- nobody more
          refine ok_some ⟨ht10, e44', Or.inl ⟨rfl, fun L p hv hp0 => ?_⟩⟩
          have em : ∀ x, ¬ Ly (eS B n) v1.toInt.toNat v4.toInt.toNat x := fun x z => by
            have := (lay x).mpr z
            rw [f, k0, show (0 : Int).toNat = 0 from rfl, Nat.zero_testBit] at this
            cases this
          obtain ⟨k, x, w1, w2, w3, w4⟩ := VRg_min hv hp0
          exfalso
          by_cases w : k < v4.toInt.toNat
          · exact hm k x w1 w w3 w4
          · refine Ly_down (by omega) em (k - v4.toInt.toNat) x ?_
            rw [show v4.toInt.toNat + (k - v4.toInt.toNat) = k by omega]
            exact w3
        · refine ok_gin (by omega) (by omega) ?_
          refine ok_gin (by omega) (by omega) ?_
          rw [ht10.1 41 (by decide) (by decide), show v1.toNatClampNeg = v1.toInt.toNat by omega]
          have r41 := hp.1 v1.toInt.toNat (by omega)
          have an2 := and_n r41.1 an.2
          have zt := zero_tb (y := B 41 v1.toInt.toNat &&& x8) an2.2
          refine ok_ite (fun g => ?_) (fun g => ?_)
          · have nz := zt.mp g
            have no : ∀ x, Ly (eS B n) v1.toInt.toNat v4.toInt.toNat x → ¬ eS B n v1.toInt.toNat x := fun x z w => by
              have := nz x
              rw [an2.1, Nat.testBit_and, (hp.2.1 _ x (by omega)).mpr w, (lay x).mpr z] at this
              cases this
            refine ok_lt (fun x18 e18 => ?_)
            rw [← e18] at ad
            refine hrec (v1, v2, x12, x18, s10) ⟨rfl, rfl, al2.1, by show x12.toInt ≤ 4095; omega, by show 1 ≤ x18.toInt; omega, by show x18.toInt ≤ 12; omega, ht10, e44', fun j => ?_, fun j => ?_, fun k j h1 h2 => layers k j h1 (by replace h2 : k < x18.toInt.toNat := h2; omega), fun k x h1 h2 h3 => ?_⟩ (show (13 - x18.toInt).toNat < (13 - v4.toInt).toNat by omega)
            · show x12.toInt.toNat.testBit j = true ↔ (j < n ∧ v1.toInt.toNat < j ∧ ∀ k, 0 < k → k < x18.toInt.toNat → ¬ Dk (eS B n) v1.toInt.toNat k j)
              rw [cp j, Bool.and_eq_true, hf j, Bool.not_eq_true', show x18.toInt.toNat = v4.toInt.toNat + 1 by omega]
              constructor
              · rintro ⟨⟨z1, z2, z3⟩, z4⟩
                refine ⟨z1, z2, fun k h1 h2 h3 => ?_⟩
                by_cases w : k = v4.toInt.toNat
                · rw [w] at h3
                  have := (lay j).mpr ⟨z2, h3, z3⟩
                  rw [this] at z4; cases z4
                · exact z3 k h1 (by omega) h3
              · rintro ⟨z1, z2, z3⟩
                refine ⟨⟨z1, z2, fun k h1 h2 => z3 k h1 (by omega)⟩, ?_⟩
                cases hh : x8.toInt.toNat.testBit j
                · rfl
                · exact absurd ((lay j).mp hh).2.1 (z3 v4.toInt.toNat (by omega) (by omega))
            · show (s10 43 0).toInt.toNat.testBit j = true ↔ j = v1.toInt.toNat
              rw [e10, up2_o (Or.inr (by omega))]
              exact h0 j
            · replace h2 : k < x18.toInt.toNat := h2
              by_cases w : k = v4.toInt.toNat
              · rw [w] at h3; exact no x h3
              · exact hm k x h1 (by omega) h3
          · refine ok_some ⟨ht10, e44', Or.inr ⟨v4.toInt.toNat + 1, by omega, ?_, by omega, by omega, fun k x h1 h2 h3 => hm k x h1 (by omega) h3, ?_, fun k j h1 h2 => layers k j h1 h2⟩⟩
            · show v4 + (1 : Int32) = _
              have := of_i (v := v4 + (1 : Int32)) (by omega)
              rw [this, show (v4 + (1 : Int32)).toInt.toNat = v4.toInt.toNat + 1 by omega]
            · have ex : ∃ x, (B 41 v1.toInt.toNat &&& x8).toInt.toNat.testBit x = true := Classical.byContradiction fun z => g (zt.mpr (fun j => by
                cases hh : (B 41 v1.toInt.toNat &&& x8).toInt.toNat.testBit j
                · rfl
                · exact absurd ⟨j, hh⟩ z))
              obtain ⟨x, hx⟩ := ex
              rw [an2.1, Nat.testBit_and, Bool.and_eq_true] at hx
              refine ⟨x, ?_, (hp.2.1 _ x (by omega)).mp hx.1⟩
              rw [show v4.toInt.toNat + 1 - 1 = v4.toInt.toNat by omega]
              exact (lay x).mp hx.2
  · refine ⟨rfl, rfl, fa.1, fa.2.1, by show 1 ≤ (1 : Int32).toInt; omega, by show (1 : Int32).toInt ≤ 12; omega, ht7, by show s7 44 = t0 44; rw [e7, up2_n (by decide)], fun j => ?_, fun j => ?_, fun k j h1 h2 => ?_, fun k x h1 h2 => ?_⟩
    · show x4.toInt.toNat.testBit j = true ↔ (j < n ∧ v1.toInt.toNat < j ∧ ∀ k, 0 < k → k < (1 : Int32).toInt.toNat → _)
      rw [fb j, k1]
      constructor
      · rintro ⟨z1, z2⟩
        exact ⟨z1, z2, fun k h1 h2 => by omega⟩
      · rintro ⟨z1, z2, -⟩
        exact ⟨z1, z2⟩
    · show (s7 43 0).toInt.toNat.testBit j = true ↔ j = v1.toInt.toNat
      rw [e7, up2_e, show x5.toInt.toNat = 2 ^ v1.toInt.toNat by omega, Nat.testBit_two_pow, decide_eq_true_eq]
      exact eq_comm
    · replace h2 : k < (1 : Int32).toInt.toNat := h2
      omega
    · replace h2 : k < (1 : Int32).toInt.toNat := h2
      omega
end
/-! rings: trace, findShortest -/
section
variable {B : Sg} {n : Nat}
theorem ic_43 {t : Sg} (h : IC0 B) (a : F43 B t) : IC0 t := by
  obtain ⟨a1, a2, a3⟩ := a
  refine ⟨fun k j => ?_, fun k j hk => by rw [a1 k (by omega) (by omega)]; exact h.2 k j hk⟩
  by_cases c : k = 43
  · subst c; exact a2 j
  · by_cases d : k = 44
    · subst d; exact a3 j
    · rw [a1 k c d]; exact h.1 k j
def fd (t : Sg) (i : Nat) : Nat := (t 44 i).toInt.toNat
set_option maxHeartbeats 4000000 in
theorem c_trace {t0 : Sg} {v1 : Int32} {L : Nat} (n12 : n ≤ 12) (hp : PBt B n) (ht0 : F43 B t0) (a0 : 0 ≤ v1.toInt) (a1 : v1.toInt < (n : Int)) (hL : 2 ≤ L) (hL2 : L ≤ 12) (hex : ∃ x, Ly (eS B n) v1.toInt.toNat (L - 1) x ∧ eS B n v1.toInt.toNat x) (hly : ∀ k j, 0 < k → k < L → ((t0 43 k).toInt.toNat.testBit j = true ↔ Ly (eS B n) v1.toInt.toNat k j)) : Ok (fun r => F43 B r ∧ fd r 0 = v1.toInt.toNat ∧ ∀ i, 0 < i → i < L → eS B n (fd r (i - 1)) (fd r i) ∧ Ly (eS B n) v1.toInt.toNat (L - i) (fd r i) ∧ ∀ y, eS B n (fd r (i - 1)) y → Ly (eS B n) v1.toInt.toNat (L - i) y → fd r i ≤ y) (fX10_trace v1 (Int32.ofNat L) t0) := by
  have k0 : (0 : Int32).toInt = 0 := by decide
  have k1 : (1 : Int32).toInt = 1 := by decide
  have oL := ofn_x (X := L) (by omega)
  unfold fX10_trace
  refine ok_gin (by decide) (by decide) ?_
  refine ok_lt (fun s2 e2 => ?_)
  rw [show (0 : Int32).toNatClampNeg = 0 by decide] at e2
  have ht2 : F43 B s2 := by
    refine ⟨fun c h3 h4 => by rw [e2, up2_n h4]; exact ht0.1 c h3 h4, fun j => by rw [e2, up2_n (by decide)]; exact ht0.2.1 j, fun j => ?_⟩
    by_cases w : j = 0
    · rw [w, e2, up2_e]; omega
    · rw [e2, up2_o (Or.inr w)]; exact ht0.2.2 j
  unfold LX10_trace_9
  refine ok_loop (I := fun (q : Int32 × Int32 × Sg) => q.1 = Int32.ofNat L ∧ 1 ≤ q.2.1.toInt ∧ q.2.1.toInt ≤ (L : Int) ∧ F43 B q.2.2 ∧ q.2.2 43 = t0 43 ∧ fd q.2.2 0 = v1.toInt.toNat ∧ ∀ i : Nat, 0 < i → (i : Int) < q.2.1.toInt → eS B n (fd q.2.2 (i - 1)) (fd q.2.2 i) ∧ Ly (eS B n) v1.toInt.toNat (L - i) (fd q.2.2 i) ∧ ∀ y, eS B n (fd q.2.2 (i - 1)) y → Ly (eS B n) v1.toInt.toNat (L - i) y → fd q.2.2 i ≤ y) (m := fun (q : Int32 × Int32 × Sg) => (13 - q.2.1.toInt).toNat) _ ?_ ?_ _ ?_
  · intro q hq
    have := hq.2.1
    show (13 - q.2.1.toInt).toNat < 10000
    omega
  · intro rec q hq hrec
    obtain ⟨q1, v3, t⟩ := q
    replace hq : q1 = Int32.ofNat L ∧ 1 ≤ v3.toInt ∧ v3.toInt ≤ (L : Int) ∧ F43 B t ∧ t 43 = t0 43 ∧ fd t 0 = v1.toInt.toNat ∧ ∀ i : Nat, 0 < i → (i : Int) < v3.toInt → eS B n (fd t (i - 1)) (fd t i) ∧ Ly (eS B n) v1.toInt.toNat (L - i) (fd t i) ∧ ∀ y, eS B n (fd t (i - 1)) y → Ly (eS B n) v1.toInt.toNat (L - i) y → fd t i ≤ y := hq
    obtain ⟨q1e, b0, b1, ht, e43, f0, hi⟩ := hq
    rw [q1e]
    show Ok _ (fX10_trace_9 rec (Int32.ofNat L) v3 t)
    unfold fX10_trace_9
    have hc3 := cl_i (i := v3) (by omega)
    refine ok_ite (fun c => ?_) (fun c => ?_)
    · replace c := i_le.mp c
      rw [oL] at c
      exact ok_some ⟨ht, f0, fun i h1 h2 => hi i h1 (by omega)⟩
    · replace c := i_nle.mp c
      rw [oL] at c
      have sb := sub_c (a := v3) (b := (1 : Int32)) 1 (by decide) (by omega) (by omega)
      have sb2 := sub_i (a := Int32.ofNat L) (b := v3) (by omega) (by omega)
      refine ok_lt (fun x2 g2 => ?_)
      rw [← g2] at sb
      have hc2 := cl_i (i := x2) (by omega)
      refine ok_gin (by omega) (by omega) ?_
      refine ok_lt (fun x4 g4 => ?_)
      rw [show x2.toNatClampNeg = v3.toInt.toNat - 1 by omega] at g4
      have r44 := ht.2.2 (v3.toInt.toNat - 1)
      rw [← g4] at r44
      have hc4 := cl_i (i := x4) (by omega)
      have ef : fd t (v3.toInt.toNat - 1) = x4.toInt.toNat := by unfold fd; rw [g4]
      -- the last one, and one that follows
      have nxt : fd t (v3.toInt.toNat - 1) < n ∧ ∃ y, eS B n (fd t (v3.toInt.toNat - 1)) y ∧ Ly (eS B n) v1.toInt.toNat (L - v3.toInt.toNat) y := by
        by_cases w : v3.toInt.toNat = 1
        · rw [w, show 1 - 1 = 0 from rfl, f0]
          obtain ⟨x, hx1, hx2⟩ := hex
          exact ⟨by omega, x, hx2, hx1⟩
        · have h := hi (v3.toInt.toNat - 1) (by omega) (by omega)
          have ly : Ly (eS B n) v1.toInt.toNat ((L - v3.toInt.toNat - 1) + 2) (fd t (v3.toInt.toNat - 1)) := by
            rw [show L - v3.toInt.toNat - 1 + 2 = L - (v3.toInt.toNat - 1) by omega]
            exact h.2.1
          obtain ⟨y, hy1, hy2⟩ := Ly_next ly
          rw [show L - v3.toInt.toNat - 1 + 1 = L - v3.toInt.toNat by omega] at hy2
          exact ⟨hy1.1, y, hy1, hy2⟩
      obtain ⟨ln, y0, hy1, hy2⟩ := nxt
      rw [ef] at ln hy1
      refine ok_gin (by omega) (by omega) ?_
      refine ok_lt (fun x6 g6 => ?_)
      rw [← g6, oL] at sb2
      have hc6 := cl_i (i := x6) (by omega)
      refine ok_gin (by omega) (by omega) ?_
      rw [ht.1 41 (by decide) (by decide), e43, show x4.toNatClampNeg = x4.toInt.toNat by omega, show x6.toNatClampNeg = L - v3.toInt.toNat by omega]
      have r41 := hp.1 x4.toInt.toNat ln
      have r43 := ht.2.1 (L - v3.toInt.toNat)
      rw [e43] at r43
      have an := and_n r41.1 r43.1
      have al := and_l (a := B 41 x4.toInt.toNat) (b := t0 43 (L - v3.toInt.toNat)) r41.1
      refine ok_lt (fun x8 g8 => ?_)
      rw [← g8] at an al
      have mem : ∀ j, x8.toInt.toNat.testBit j = true ↔ (eS B n x4.toInt.toNat j ∧ Ly (eS B n) v1.toInt.toNat (L - v3.toInt.toNat) j) := fun j => by
        rw [an.1, Nat.testBit_and, Bool.and_eq_true, hp.2.1 _ j ln, hly _ j (by omega) (by omega)]
      obtain ⟨y, z1, z2, z3, z4, z5⟩ := leastOf_is (v0 := x8) (sg := t) an.2 (by omega) ⟨y0, (mem y0).mpr ⟨hy1, hy2⟩⟩
      refine bnd2_of z1 ?_
      refine ok_gin (by omega) (by omega) ?_
      refine ok_lt (fun s13 e13 => ?_)
      rw [show v3.toNatClampNeg = v3.toInt.toNat by omega] at e13
      refine ok_lt (fun x e => ?_)
      replace e : x.toInt = v3.toInt + 1 := by rw [e]; exact add_c 1 (by decide) (by omega) (by omega)
      have fo : ∀ i, i ≠ v3.toInt.toNat → fd s13 i = fd t i := fun i h => by unfold fd; rw [e13, up2_o (Or.inr h)]
      have fe : fd s13 v3.toInt.toNat = y.toInt.toNat := by unfold fd; rw [e13, up2_e]
      have ht13 : F43 B s13 := by
        refine ⟨fun c h3 h4 => by rw [e13, up2_n h4]; exact ht.1 c h3 h4, fun j => by rw [e13, up2_n (by decide)]; exact ht.2.1 j, fun j => ?_⟩
        by_cases w : j = v3.toInt.toNat
        · rw [w, e13, up2_e]; omega
        · rw [e13, up2_o (Or.inr w)]; exact ht.2.2 j
      refine hrec (Int32.ofNat L, x, s13) ⟨rfl, by show 1 ≤ x.toInt; omega, by show x.toInt ≤ (L : Int); omega, ht13, by show s13 43 = t0 43; rw [e13, up2_n (by decide)]; exact e43, by show fd s13 0 = _; rw [fo 0 (by omega)]; exact f0, fun i h1 h2 => ?_⟩ (show (13 - x.toInt).toNat < (13 - v3.toInt).toNat by omega)
      · replace h2 : (i : Int) < x.toInt := h2
        show eS B n (fd s13 (i - 1)) (fd s13 i) ∧ Ly (eS B n) v1.toInt.toNat (L - i) (fd s13 i) ∧ ∀ y, eS B n (fd s13 (i - 1)) y → Ly (eS B n) v1.toInt.toNat (L - i) y → fd s13 i ≤ y
        by_cases w : i = v3.toInt.toNat
        · rw [w, fe, fo (v3.toInt.toNat - 1) (by omega), ef]
          have := (mem _).mp z4
          exact ⟨this.1, this.2, fun y' a b => z5 y' ((mem y').mpr ⟨a, b⟩)⟩
        · rw [fo i w, fo (i - 1) (by omega)]
          exact hi i h1 (by omega)
  · refine ⟨rfl, by show 1 ≤ (1 : Int32).toInt; omega, by show (1 : Int32).toInt ≤ (L : Int); omega, ht2, by show s2 43 = t0 43; rw [e2, up2_n (by decide)], by show fd s2 0 = _; unfold fd; rw [e2, up2_e], fun i h1 h2 => ?_⟩
    replace h2 : (i : Int) < (1 : Int32).toInt := h2
    omega
def FSq (B : Sg) (n : Nat) (q : Int32 × Sg) : Prop := F43 B q.2 ∧ ((q.1 = 0 ∧ ∀ L p, ¬ VRg (eS B n) L p) ∨ ∃ L, q.1 = Int32.ofNat L ∧ 2 ≤ L ∧ L ≤ 12 ∧ LRg (eS B n) L (fd q.2))
/-- so far, from the starts below v -/
def FSi (B : Sg) (n : Nat) (v : Int) (v1 : Int32) (t : Sg) : Prop := (v1 = 0 ∧ ∀ L p, VRg (eS B n) L p → ¬ ((p 0 : Int) < v)) ∨ ∃ L, v1 = Int32.ofNat L ∧ 2 ≤ L ∧ L ≤ 12 ∧ VRg (eS B n) L (fd t) ∧ (fd t 0 : Int) < v ∧ ∀ L' p, VRg (eS B n) L' p → (p 0 : Int) < v → L ≤ L' ∧ (L' = L → LXl L (fd t) p)
set_option maxHeartbeats 4000000 in
theorem c_find {t0 : Sg} (hn : (B 3 2).toInt = (n : Int)) (n12 : n ≤ 12) (hp : PBt B n) (ht0 : F43 B t0) : Ok (FSq B n) (fX10_findShortest t0) := by
  have k0 : (0 : Int32).toInt = 0 := by decide
  have eN : ∀ a b, eS B n a b → a < n ∧ b < n := fun a b z => ⟨z.1, z.2.1⟩
  unfold fX10_findShortest LX10_findShortest_4
  refine ok_loop (I := fun (q : Int32 × Int32 × Sg) => 0 ≤ q.2.1.toInt ∧ q.2.1.toInt ≤ (n : Int) ∧ F43 B q.2.2 ∧ FSi B n q.2.1.toInt q.1 q.2.2) (m := fun (q : Int32 × Int32 × Sg) => (13 - q.2.1.toInt).toNat) _ ?_ ?_ _ ?_
  · intro q hq
    have := hq.1
    show (13 - q.2.1.toInt).toNat < 10000
    omega
  · intro rec q hq hrec
    obtain ⟨v1, v2, t⟩ := q
    replace hq : 0 ≤ v2.toInt ∧ v2.toInt ≤ (n : Int) ∧ F43 B t ∧ FSi B n v2.toInt v1 t := hq
    obtain ⟨b0, b1, ht, alt⟩ := hq
    show Ok _ (fX10_findShortest_4 rec v1 v2 t)
    unfold fX10_findShortest_4
    rw [ht.1 3 (by decide) (by decide)]
    refine ok_ite (fun c => ?_) (fun c => ?_)
    · replace c := i_le.mp c
      rw [hn] at c
      refine ok_some ⟨ht, ?_⟩
      rcases alt with ⟨z1, z2⟩ | ⟨L, z1, z2, z3, z4, z6, z5⟩
      · refine Or.inl ⟨z1, fun L p hv => z2 L p hv ?_⟩
        have := VRg_in eN hv 0 (by have := hv.1; omega)
        omega
      · refine Or.inr ⟨L, z1, z2, z3, z4, fun L' q hv => ?_, fun q hv => ?_⟩
        · have := VRg_in eN hv 0 (by have := hv.1; omega)
          exact (z5 L' q hv (by omega)).1
        · have := VRg_in eN hv 0 (by omega)
          exact (z5 L q hv (by omega)).2 rfl
    · replace c := i_nle.mp c
      rw [hn] at c
      -- one start more
      have step : ∀ (w0 : Int32), 0 ≤ w0.toInt → w0.toInt ≤ 13 → (v1 = 0 → w0.toInt = (n : Int) + 1) → (¬ v1 = 0 → w0 = v1) → Ok (FSq B n) (fX10_findShortest_32 rec v1 v2 w0 t) := by
        intro w0 w1 w2 w3 w4
        unfold fX10_findShortest_32
        refine ok_bnd2 (c_length (v1 := v2) (v2 := w0) hn n12 hp ht b0 c w1 w2) (fun y s h => ?_)
        obtain ⟨g1, g2, g3⟩ := h
        replace g1 : F43 B s := g1
        replace g2 : s 44 = t 44 := g2
        have ef : fd s = fd t := by funext i; unfold fd; rw [g2]
        have go : ∀ (u1 : Int32) (s' : Sg), F43 B s' → FSi B n (v2.toInt + 1) u1 s' → Ok (FSq B n) (fX10_findShortest_56 rec u1 v2 s') := by
          intro u1 s' h1 h2
          unfold fX10_findShortest_56
          refine ok_lt (fun x e => ?_)
          replace e : x.toInt = v2.toInt + 1 := by rw [e]; exact add_c 1 (by decide) (by omega) (by omega)
          refine hrec (u1, x, s') ⟨by show 0 ≤ x.toInt; omega, by show x.toInt ≤ (n : Int); omega, h1, ?_⟩ (show (13 - x.toInt).toNat < (13 - v2.toInt).toNat by omega)
          show FSi B n x.toInt u1 s'
          rw [e]; exact h2
        rcases g3 with ⟨u1, u2⟩ | ⟨L, u2, u1, u3, u4, u5, u6, u7⟩
        · replace u1 : y = 0 := u1
          rw [u1, if_pos (by decide)]
          refine go v1 s g1 ?_
          rcases alt with ⟨z1, z2⟩ | ⟨L, z1, z2, z3, z4, z6, z5⟩
          · refine Or.inl ⟨z1, fun L p hv hlt => ?_⟩
            by_cases w : (p 0 : Int) < v2.toInt
            · exact z2 L p hv w
            · have a := u2 L p hv (by omega)
              have ln := VRg_len eN hv
              have := w3 z1
              omega
          · have oL := ofn_x (X := L) (by omega)
            have nz : ¬ v1 = 0 := fun y => by
              rw [z1] at y
              have := congrArg Int32.toInt y
              omega
            refine Or.inr ⟨L, z1, z2, z3, by rw [ef]; exact z4, by rw [ef]; omega, fun L' p hv hlt => ?_⟩
            rw [ef]
            by_cases w : (p 0 : Int) < v2.toInt
            · exact z5 L' p hv w
            · have a := u2 L' p hv (by omega)
              rw [w4 nz, z1, oL] at a
              refine ⟨by omega, fun _ => Or.inr ⟨0, by omega, fun i hi => absurd hi (Nat.not_lt_zero _), by omega⟩⟩
        · replace u1 : y = Int32.ofNat L := u1
          replace u7 : ∀ k j, 0 < k → k < L → ((s 43 k).toInt.toNat.testBit j = true ↔ Ly (eS B n) v2.toInt.toNat k j) := u7
          have oL := ofn_x (X := L) (by omega)
          have ny : ¬ y ≤ 0 := fun z => by
            have := i_le.mp z
            rw [u1] at this
            omega
          rw [if_neg ny, u1]
          refine ok_bnd1 (c_trace n12 hp g1 b0 c u2 u4 u6 u7) (fun s5 h5 => ?_)
          obtain ⟨h1, h2, h3⟩ := h5
          obtain ⟨vr, lx⟩ := trace_ring u2 h2 u5 h3
          refine go _ s5 h1 (Or.inr ⟨L, rfl, u2, u4, vr, by rw [h2]; omega, fun L' p hv hlt => ?_⟩)
          by_cases w : (p 0 : Int) < v2.toInt
          · rcases alt with ⟨z1, z2⟩ | ⟨L0, z1, z2, z3, z4, z6, z5⟩
            · exact absurd w (z2 L' p hv)
            · have oL0 := ofn_x (X := L0) (by omega)
              have nz : ¬ v1 = 0 := fun y => by
                rw [z1] at y
                have := congrArg Int32.toInt y
                omega
              rw [w4 nz, z1, oL0] at u3
              have := (z5 L' p hv w).1
              exact ⟨by omega, fun y => by omega⟩
          · have p0 : p 0 = v2.toInt.toNat := by omega
            obtain ⟨k, x, m1, m2, m3, m4⟩ := VRg_min hv p0
            refine ⟨Nat.not_lt.mp (fun y => u5 k x m1 (by omega) m3 m4), fun y => ?_⟩
            rw [y] at hv
            exact lx p hv p0
      refine ok_ite (fun d => ?_) (fun d => ?_)
      · have ad := add_c (a := B 3 2) (b := (1 : Int32)) 1 (by decide) (by omega) (by omega)
        exact step _ (by omega) (by omega) (fun _ => by rw [ad, hn]) (fun z => absurd d z)
      · rcases alt with ⟨z1, -⟩ | ⟨L, z1, z2, z3, -⟩
        · exact absurd z1 d
        · have oL := ofn_x (X := L) (by omega)
          exact step v1 (by rw [z1]; omega) (by rw [z1]; omega) (fun z => absurd z d) (fun _ => rfl)
  · refine ⟨by show 0 ≤ (0 : Int32).toInt; omega, by show (0 : Int32).toInt ≤ (n : Int); omega, ht0, Or.inl ⟨rfl, fun L p _ z => ?_⟩⟩
    replace z : (p 0 : Int) < (0 : Int32).toInt := z
    omega
end
