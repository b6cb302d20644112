/-! rings: keepFound, packAll -/
section
variable {t : Sg} {L k : Nat}
def KFq (t : Sg) (L k : Nat) (sh : Int32) (r : Sg) : Prop := (∀ c, c ≠ 8 → c ≠ 37 → c ≠ 38 → c ≠ 39 → r c = t c) ∧ (r 8 1).toInt = (k : Int) + 1 ∧ r 37 k = sh ∧ (r 38 k).toInt = (L : Int) ∧ (∀ j, j ≠ k → r 37 j = t 37 j ∧ r 38 j = t 38 j) ∧ (∀ i, i < L → r 39 (12 * k + i) = t 17 (fd t i)) ∧ ∀ x, x < 12 * k → r 39 x = t 39 x
set_option maxHeartbeats 4000000 in
theorem c_keep {sh : Int32} (hL : L ≤ 12) (hk : (t 8 1).toInt = (k : Int)) (k1 : k ≤ 131) (r44 : ∀ j, 0 ≤ (t 44 j).toInt ∧ (t 44 j).toInt ≤ 11) : Ok (KFq t L k sh) (fX10_keepFound (Int32.ofNat L) sh t) := by
  have k0 : (0 : Int32).toInt = 0 := by decide
  have oL := ofn_x (X := L) (by omega)
  have ck := cl_i (i := t 8 1) (by omega)
  unfold fX10_keepFound
  refine ok_gin (by omega) (by omega) ?_
  refine ok_lt (fun s2 e2 => ?_)
  rw [show (t 8 1).toNatClampNeg = k by omega] at e2
  have e82 : s2 8 = t 8 := by rw [e2, up2_n (by decide)]
  rw [e82]
  refine ok_gin (by omega) (by omega) ?_
  refine ok_lt (fun s4 e4 => ?_)
  rw [show (t 8 1).toNatClampNeg = k by omega] at e4
  have f4 : ∀ c, c ≠ 37 → c ≠ 38 → s4 c = t c := fun c h1 h2 => by rw [e4, up2_n h2, e2, up2_n h1]
  have e37 : s4 37 k = sh := by rw [e4, up2_n (by decide), e2, up2_e]
  have e38 : s4 38 k = Int32.ofNat L := by rw [e4, up2_e]
  have o378 : ∀ j, j ≠ k → s4 37 j = t 37 j ∧ s4 38 j = t 38 j := fun j hj => by
    refine ⟨?_, ?_⟩
    · rw [e4, up2_n (by decide), e2, up2_o (Or.inr hj)]
    · rw [e4, up2_o (Or.inr hj), e2, up2_n (by decide)]
  unfold LX10_keepFound_22
  refine ok_loop (I := fun (q : Int32 × Int32 × Sg) => q.1 = Int32.ofNat L ∧ 0 ≤ q.2.1.toInt ∧ q.2.1.toInt ≤ (L : Int) ∧ (∀ c, c ≠ 39 → q.2.2 c = s4 c) ∧ (∀ i : Nat, (i : Int) < q.2.1.toInt → q.2.2 39 (12 * k + i) = t 17 (fd t i)) ∧ ∀ x, x < 12 * k → q.2.2 39 x = t 39 x) (m := fun (q : Int32 × Int32 × Sg) => (13 - q.2.1.toInt).toNat) _ ?_ ?_ _ ?_
  · intro q hq
    have := hq.2.1
    show (13 - q.2.1.toInt).toNat < 10000
    omega
  · intro rec q hq hrec
    obtain ⟨q1, v3, s⟩ := q
    replace hq : q1 = Int32.ofNat L ∧ 0 ≤ v3.toInt ∧ v3.toInt ≤ (L : Int) ∧ (∀ c, c ≠ 39 → s c = s4 c) ∧ (∀ i : Nat, (i : Int) < v3.toInt → s 39 (12 * k + i) = t 17 (fd t i)) ∧ ∀ x, x < 12 * k → s 39 x = t 39 x := hq
    obtain ⟨e1, b0, b1, fs, hi, hx⟩ := hq
    rw [e1]
    show Ok _ (fX10_keepFound_22 rec (Int32.ofNat L) v3 s)
    unfold fX10_keepFound_22
    have c3 := cl_i b0
    have s8 : s 8 = t 8 := by rw [fs 8 (by decide)]; exact f4 8 (by decide) (by decide)
    rw [s8]
    refine ok_ite (fun c => ?_) (fun c => ?_)
    · replace c := i_le.mp c
      rw [oL] at c
      have ad := add_c (a := t 8 1) (b := (1 : Int32)) 1 (by decide) (by omega) (by omega)
      refine ok_lt (fun x2 g2 => ?_)
      rw [← g2] at ad
      refine ok_lt (fun s3 g3 => ?_)
      have f3 : ∀ c, c ≠ 8 → s3 c = s c := fun c hc => by rw [g3, up2_n hc]
      refine ok_some ⟨fun c h1 h2 h3 h4 => by rw [f3 c h1, fs c h4]; exact f4 c h2 h3, by rw [g3, up2_e]; omega, by rw [f3 37 (by decide), fs 37 (by decide)]; exact e37, by rw [f3 38 (by decide), fs 38 (by decide), e38]; exact oL, fun j hj => by rw [f3 37 (by decide), f3 38 (by decide), fs 37 (by decide), fs 38 (by decide)]; exact o378 j hj, fun i hi' => by rw [f3 39 (by decide)]; exact hi i (by omega), fun x hx' => by rw [f3 39 (by decide)]; exact hx x hx'⟩
    · replace c := i_nle.mp c
      rw [oL] at c
      refine ok_gin (by omega) (by omega) ?_
      rw [fs 44 (by decide), f4 44 (by decide) (by decide), fs 17 (by decide), f4 17 (by decide) (by decide), show v3.toNatClampNeg = v3.toInt.toNat by omega]
      have r := r44 v3.toInt.toNat
      refine ok_lt (fun x5 g5 => ?_)
      rw [← g5] at r
      have c5 := cl_i r.1
      refine ok_gin (by omega) (by omega) ?_
      refine ok_lt (fun x7 g7 => ?_)
      rw [show x5.toNatClampNeg = fd t v3.toInt.toNat by unfold fd; rw [← g5]; omega] at g7
      have m1 := mul_r (a := t 8 1) (b := (12 : Int32)) 12 (by decide) (by omega) (by omega)
      have m2 := add_i (a := t 8 1 * (12 : Int32)) (b := v3) (by omega) (by omega)
      have m3 := cl_i (i := t 8 1 * (12 : Int32) + v3) (by omega)
      refine ok_gin (by omega) (by omega) ?_
      refine ok_lt (fun s9 g9 => ?_)
      rw [show (t 8 1 * (12 : Int32) + v3).toNatClampNeg = 12 * k + v3.toInt.toNat by omega] at g9
      refine ok_lt (fun x e => ?_)
      replace e : x.toInt = v3.toInt + 1 := by rw [e]; exact add_c 1 (by decide) (by omega) (by omega)
      refine hrec (Int32.ofNat L, x, s9) ⟨rfl, by show 0 ≤ x.toInt; omega, by show x.toInt ≤ (L : Int); omega, fun c hc => by show s9 c = s4 c; rw [g9, up2_n hc]; exact fs c hc, fun i hi' => ?_, fun y hy => by show s9 39 y = t 39 y; rw [g9, up2_o (Or.inr (by omega))]; exact hx y hy⟩ (show (13 - x.toInt).toNat < (13 - v3.toInt).toNat by omega)
      replace hi' : (i : Int) < x.toInt := hi'
      show s9 39 (12 * k + i) = t 17 (fd t i)
      by_cases w : i = v3.toInt.toNat
      · rw [w, g9, up2_e]; exact g7
      · rw [g9, up2_o (Or.inr (by omega))]; exact hi i (by omega)
  · refine ⟨rfl, by show 0 ≤ (0 : Int32).toInt; omega, by show (0 : Int32).toInt ≤ (L : Int); omega, fun _ _ => rfl, fun i hi => ?_, fun x _ => by show s4 39 x = t 39 x; rw [f4 39 (by decide) (by decide)]⟩
    replace hi : (i : Int) < (0 : Int32).toInt := hi
    omega
end
/-- the rings that stand in the class -/
def TBx (t : Sg) (T : RgT) (k : Nat) : Prop := ∀ j, j < k → (t 37 j).toInt = (T j).2.1 ∧ (t 38 j).toInt = ((T j).1 : Int) ∧ (2 ≤ (T j).1 ∧ (T j).1 ≤ 12) ∧ ∀ i, i < (T j).1 → (t 39 (12 * j + i)).toInt = ((T j).2.2 i : Int)
/-- what is left at first, by hens -/
noncomputable def W00 (A : Sg) (a b : Nat) : Int := @ite _ (Ct A a ∧ Ct A b) (Classical.propDecidable _) (A 15 (12 * a + b)).toInt 0
theorem W00_WB {A : Sg} (hI : IC0 A) : WB (W00 A) := fun a b => by
  unfold W00
  split
  · exact rdC15 hI
  · omega
section
variable {A : Sg} {n : Nat}
/-- packAll, so far -/
def PIx (A : Sg) (n : Nat) (T : RgT) (k : Nat) (t : Sg) (W : Nat → Nat → Int) : Prop := (∀ c, c ≠ 8 → ¬ (37 ≤ c ∧ c ≤ 44) → t c = A c) ∧ (t 8 1).toInt = (k : Int) ∧ PBt t n ∧ (∀ a b, a < n → b < n → 0 ≤ (t 40 (12 * a + b)).toInt ∧ (t 40 (12 * a + b)).toInt ≤ 1000000) ∧ (∀ j, 0 ≤ (t 43 j).toInt ∧ (t 43 j).toInt ≤ 4095) ∧ (∀ j, 0 ≤ (t 44 j).toInt ∧ (t 44 j).toInt ≤ 11) ∧ WC A t W ∧ TBx t T k
def PAq (A : Sg) (W0 : Nat → Nat → Int) (q : Int64 × Sg) : Prop := ∃ T k b, PkF W0 T k b ∧ q.1 = Int64.ofInt b ∧ (∀ c, c ≠ 8 → ¬ (37 ≤ c ∧ c ≤ 44) → q.2 c = A c) ∧ (q.2 8 1).toInt = (k : Int) ∧ TBx q.2 T k ∧ k ≤ 132
set_option maxHeartbeats 4000000 in
theorem pa_20 {W0 : Nat → Nat → Int} {t0 : Sg} (hM : MC A) (hn : n = rk A 12) (hW : WB W0) (h0 : ∀ T, PIx A n T 0 t0 W0) : Ok (PAq A W0) (LX10_packAll_20 ((0 : Int64), (0 : Int32), t0)) := by
  have k0 : (0 : Int32).toInt = 0 := by decide
  have k132 : (132 : Int32).toInt = 132 := by decide
  have n12 : n ≤ 12 := by have := rk_le A 12; omega
  have hn3 : (A 3 2).toInt = (n : Int) := by rw [hM.1, hn]
  unfold LX10_packAll_20
  refine ok_loop (I := fun (q : Int64 × Int32 × Sg) => 0 ≤ q.2.1.toInt ∧ q.2.1.toInt ≤ 132 ∧ ∃ T W b, PkS W0 T q.2.1.toInt.toNat W b ∧ q.1 = Int64.ofInt b ∧ PIx A n T q.2.1.toInt.toNat q.2.2 W) (m := fun (q : Int64 × Int32 × Sg) => (133 - q.2.1.toInt).toNat) _ ?_ ?_ _ ?_
  · intro q hq
    have := hq.1
    show (133 - q.2.1.toInt).toNat < 10000
    omega
  · intro rec q hq hrec
    obtain ⟨v1, v3, t⟩ := q
    replace hq : 0 ≤ v3.toInt ∧ v3.toInt ≤ 132 ∧ ∃ T W b, PkS W0 T v3.toInt.toNat W b ∧ v1 = Int64.ofInt b ∧ PIx A n T v3.toInt.toNat t W := hq
    obtain ⟨b0, b1, T, W, b, ps, eb, hx⟩ := hq
    obtain ⟨fr, e81, hp, r40, r43, r44, hw, tb⟩ := hx
    obtain ⟨iW, ic, -⟩ := PkS_inv hW _ W b ps
    show Ok _ (fX10_packAll_20 rec v1 v3 t)
    unfold fX10_packAll_20
    have hn3' : (t 3 2).toInt = (n : Int) := by rw [fr 3 (by decide) (by omega)]; exact hn3
    refine ok_ite (fun c => ?_) (fun c => ?_)
    · replace c := i_le.mp c
      have z : npk W = 0 := by omega
      exact ok_some ⟨T, v3.toInt.toNat, b, ⟨W, ps, npk_0 z⟩, eb, fr, e81, tb, by omega⟩
    · replace c := i_nle.mp c
      refine ok_bnd2 (c_find (B := t) (n := n) hn3' n12 hp ⟨fun _ _ _ => rfl, r43, r44⟩) (fun y s h => ?_)
      obtain ⟨f43, alt⟩ := h
      replace f43 : F43 t s := f43
      have fr' : ∀ c, c ≠ 8 → ¬ (37 ≤ c ∧ c ≤ 44) → s c = A c := fun c h1 h2 => by rw [f43.1 c (by omega) (by omega)]; exact fr c h1 h2
      have tb' : TBx s T v3.toInt.toNat := fun j hj => by
        rw [f43.1 37 (by decide) (by decide), f43.1 38 (by decide) (by decide), f43.1 39 (by decide) (by decide)]
        exact tb j hj
      rcases alt with ⟨z1, z2⟩ | ⟨L, z1, z2, z3, z4⟩
      · replace z1 : y = 0 := z1
        rw [z1, ite0]
        refine ok_some ⟨T, v3.toInt.toNat, b, ⟨W, ps, fun L q hq => ?_⟩, eb, fr', by show (s 8 1).toInt = _; rw [f43.1 8 (by decide) (by decide)]; exact e81, tb', by omega⟩
        have := vr_ws (A := A) hw hq
        rw [← hn] at this
        exact z2 L _ this
      · replace z1 : y = Int32.ofNat L := z1
        replace z4 : LRg (eS t n) L (fd s) := z4
        have oL := ofn_x (X := L) (by omega)
        have ny : ¬ y = 0 := fun z => by
          rw [z1] at z
          have := congrArg Int32.toInt z
          omega
        rw [if_neg ny, z1]
        have e40 : s 40 = t 40 := f43.1 40 (by decide) (by decide)
        have eeS : ∀ i j, eS s n i j ↔ eS t n i j := fun i j => by unfold eS; rw [e40]
        have eSe : eS s n = eS t n := by funext i j; exact propext (eeS i j)
        have hps : PBt s n := by
          refine ⟨fun i hi => by rw [f43.1 41 (by decide) (by decide), f43.1 42 (by decide) (by decide)]; exact hp.1 i hi, fun i j hi => by rw [f43.1 41 (by decide) (by decide), eeS]; exact hp.2.1 i j hi, fun i j hj => by rw [f43.1 42 (by decide) (by decide), eeS]; exact hp.2.2 i j hj⟩
        have lr := lr_sw (A := A) hM hw (by rw [← hn]; exact z4)
        have lt := VRg_in (N := n) (fun a b z => ⟨z.1, z.2.1⟩) z4.1
        have L0 : 0 < L := by omega
        refine ok_bnd2 (c_useUp (B := s) (n := n) (L := L) n12 z3 hps (by rw [eSe]; exact z4.1) f43.2.2 (by rw [e40]; exact r40)) (fun y6 s7 h7 => ?_)
        obtain ⟨es, ⟨fu, ru⟩, hp7, hv7⟩ := h7
        replace es : y6.toInt = shr (V40 s) L (fd s) := es
        replace fu : ∀ c, c ≠ 40 → c ≠ 41 → c ≠ 42 → s7 c = s c := fu
        -- the share, by hens
        have esh : shr (V40 s) L (fd s) = shr W L (fun i => unr A (fd s i)) := by
          unfold shr
          refine mnI_cg L (fun i hi => ?_)
          obtain ⟨c1, c2⟩ := unr_ct (A := A) hM (by rw [← hn]; exact lt i hi)
          obtain ⟨d1, d2⟩ := unr_ct (A := A) hM (by rw [← hn]; exact lt _ (nxi_lt (i := i) L0))
          have := hw.1 _ _ c1 d1
          rw [c2, d2] at this
          show V40 s (fd s i) (fd s (nxi L i)) = W (unr A (fd s i)) (unr A (fd s (nxi L i)))
          unfold V40
          rw [e40]
          exact this
        have sb := shr_bd iW lr.1
        have e87 : (s7 8 1).toInt = (v3.toInt.toNat : Int) := by rw [fu 8 (by decide) (by decide) (by decide), f43.1 8 (by decide) (by decide)]; exact e81
        have e44 : s7 44 = s 44 := fu 44 (by decide) (by decide) (by decide)
        have efd : fd s7 = fd s := by funext i; unfold fd; rw [e44]
        refine ok_bnd1 (c_keep (t := s7) (L := L) (k := v3.toInt.toNat) (sh := y6) z3 e87 (by omega) (by rw [e44]; exact f43.2.2)) (fun s9 h9 => ?_)
        obtain ⟨g1, g2, g3, g4, g5, g6, g7⟩ := h9
        refine ok_lt (fun x11 e11 => ?_)
        refine ok_lt (fun x12 e12 => ?_)
        replace e12 : x12.toInt = v3.toInt + 1 := by rw [e12]; exact add_c 1 (by decide) (by omega) (by omega)
        -- the table grows
        have Tn : ∃ T' : RgT, (∀ j, j ≠ v3.toInt.toNat → T' j = T j) ∧ T' v3.toInt.toNat = (L, shr W L (fun i => unr A (fd s i)), fun i => unr A (fd s i)) := ⟨fun j => if j = v3.toInt.toNat then (L, shr W L (fun i => unr A (fd s i)), fun i => unr A (fd s i)) else T j, fun j hj => if_neg hj, if_pos rfl⟩
        obtain ⟨T', t1, t2⟩ := Tn
        have fr9 : ∀ c, c ≠ 8 → ¬ (37 ≤ c ∧ c ≤ 44) → s9 c = A c := fun c h1 h2 => by rw [g1 c h1 (by omega) (by omega) (by omega), fu c (by omega) (by omega) (by omega)]; exact fr' c h1 h2
        have n40 : s9 40 = s7 40 := g1 40 (by decide) (by decide) (by decide) (by decide)
        have eeS9 : ∀ i j, eS s9 n i j ↔ eS s7 n i j := fun i j => by unfold eS; rw [n40]
        refine hrec (x11, x12, s9) ⟨by show 0 ≤ x12.toInt; omega, by show x12.toInt ≤ 132; omega, T', lfW W L (fun i => unr A (fd s i)), b + shr W L (fun i => unr A (fd s i)), ?_, ?_, ?_⟩ (show (133 - x12.toInt).toNat < (133 - v3.toInt).toNat by omega)
        · show PkS W0 T' x12.toInt.toNat _ _
          rw [show x12.toInt.toNat = v3.toInt.toNat + 1 by omega]
          refine ⟨W, b, PkS_cg _ W b ps (fun j hj => t1 j (by omega)), ?_⟩
          rw [t2]
          exact ⟨lr, rfl, rfl, rfl⟩
        · show x11 = _
          rw [e11, eb, Int64.ofInt_add, ← esh, ← es, ofI_32]
        · show PIx A n T' x12.toInt.toNat s9 _
          rw [show x12.toInt.toNat = v3.toInt.toNat + 1 by omega]
          refine ⟨fr9, by rw [g2]; omega, ⟨fun i hi => by rw [g1 41 (by decide) (by decide) (by decide) (by decide), g1 42 (by decide) (by decide) (by decide) (by decide)]; exact hp7.1 i hi, fun i j hi => by rw [g1 41 (by decide) (by decide) (by decide) (by decide), eeS9]; exact hp7.2.1 i j hi, fun i j hj => by rw [g1 42 (by decide) (by decide) (by decide) (by decide), eeS9]; exact hp7.2.2 i j hj⟩, fun a b ha hb => by rw [n40]; exact ru a b ha hb, fun j => by rw [g1 43 (by decide) (by decide) (by decide) (by decide), fu 43 (by decide) (by decide) (by decide)]; exact f43.2.1 j, fun j => by rw [g1 44 (by decide) (by decide) (by decide) (by decide), e44]; exact f43.2.2 j, ⟨fun a b ca cb' => ?_, fun a b z => ?_⟩, fun j hj => ?_⟩
          · have la := rk_lt ca.2 ca.1
            have lb := rk_lt cb'.2 cb'.1
            have hv := hv7 (rk A a) (rk A b) (by omega) (by omega)
            have old := hw.1 a b ca cb'
            have iff : onR L (fun i => unr A (fd s i)) a b ↔ onI L (fd s) L (rk A a) (rk A b) := by
              constructor
              · rintro ⟨i, x1, x2, x3⟩
                have x2' : a = unr A (fd s i) := x2
                have x3' : b = unr A (fd s (nxi L i)) := x3
                refine ⟨i, x1, ?_, ?_⟩
                · rw [x2']; exact (unr_ct hM (by rw [← hn]; exact lt i x1)).2
                · rw [x3']; exact (unr_ct hM (by rw [← hn]; exact lt _ (nxi_lt L0))).2
              · rintro ⟨i, x1, x2, x3⟩
                refine ⟨i, x1, ?_, ?_⟩
                · show a = unr A (fd s i)
                  rw [← x2, unr_rk hM ca]
                · show b = unr A (fd s (nxi L i))
                  rw [← x3, unr_rk hM cb']
            rw [n40]
            show V40 s7 (rk A a) (rk A b) = _
            have eV : V40 s (rk A a) (rk A b) = W a b := by unfold V40; rw [e40]; exact old
            by_cases w : onR L (fun i => unr A (fd s i)) a b
            · rw [lfW_p w, hv.1 (iff.mp w), eV, esh]
            · rw [lfW_n w, hv.2 (fun y => w (iff.mpr y)), eV]
          · have w : ¬ onR L (fun i => unr A (fd s i)) a b := by
              rintro ⟨i, x1, x2, x3⟩
              have x2' : a = unr A (fd s i) := x2
              have x3' : b = unr A (fd s (nxi L i)) := x3
              refine z ⟨?_, ?_⟩
              · rw [x2']; exact (unr_ct hM (by rw [← hn]; exact lt i x1)).1
              · rw [x3']; exact (unr_ct hM (by rw [← hn]; exact lt _ (nxi_lt L0))).1
            rw [lfW_n w]
            exact hw.2 a b z
          · by_cases w : j = v3.toInt.toNat
            · rw [w, t2, g3]
              refine ⟨by rw [es]; exact esh, g4, ⟨z2, z3⟩, fun i hi => ?_⟩
              replace hi : i < L := hi
              show (s9 39 (12 * v3.toInt.toNat + i)).toInt = (unr A (fd s i) : Int)
              rw [g6 i hi, efd, fu 17 (by decide) (by decide) (by decide), fr' 17 (by decide) (by omega)]
              obtain ⟨c1, c2⟩ := unr_ct (A := A) hM (by rw [← hn]; exact lt i hi)
              have := (hM.2.1 _ c1.1 c1.2).1
              rw [c2] at this
              have o := ofn_n c1.1
              rw [this, o]
            · have hj' : j < v3.toInt.toNat := by omega
              have old := tb' j hj'
              rw [t1 j w]
              refine ⟨?_, ?_, old.2.2.1, fun i hi => ?_⟩
              · rw [(g5 j w).1, fu 37 (by decide) (by decide) (by decide)]; exact old.1
              · rw [(g5 j w).2, fu 38 (by decide) (by decide) (by decide)]; exact old.2.1
              · have := old.2.2.1
                rw [g7 _ (by omega), fu 39 (by decide) (by decide) (by decide)]; exact old.2.2.2 i hi
  · refine ⟨by show 0 ≤ (0 : Int32).toInt; omega, by show (0 : Int32).toInt ≤ 132; omega, fun _ => (0, 0, fun _ => 0), W0, 0, ?_, (show (0 : Int64) = Int64.ofInt 0 by decide), ?_⟩
    · show PkS W0 _ (0 : Int32).toInt.toNat W0 0
      rw [k0]
      exact ⟨rfl, rfl⟩
    · show PIx A n _ (0 : Int32).toInt.toNat t0 W0
      rw [k0]
      exact h0 _
set_option maxHeartbeats 4000000 in
theorem c_pack {sx : Sg} (hI : IC sx) (hJ : JC sx) : Ok (fun q => PAq sx (W00 sx) (q.1, fun c => if c = 3 ∨ (17 ≤ c ∧ c ≤ 23) then sx c else q.2 c)) (fX10_packAll sx) := by
  unfold fX10_packAll
  refine ok_bnd1 (j_gather hI hJ) (fun s1 h1 => ?_)
  obtain ⟨i1, j1, m1, st, f1⟩ := h1
  have n12 := rk_le s1 12
  have hn : (s1 3 2).toInt = (rk s1 12 : Int) := m1.1
  refine ok_bnd1 (c_takeAll (A := s1) hn n12) (fun s3 h3 => ?_)
  obtain ⟨f3, hp, v3⟩ := h3
  refine ok_lt (fun s5 e5 => ?_)
  have f5 : ∀ c, c ≠ 8 → s5 c = s3 c := fun c hc => by rw [e5, up2_n hc]
  have eeS : ∀ i j, eS s5 (rk s1 12) i j ↔ eS s3 (rk s1 12) i j := fun i j => by unfold eS; rw [f5 40 (by decide)]
  have ct : Ct s1 = Ct sx := Ct_cg (by rw [f1 1 (by omega)]) (f1 11 (by omega)) (f1 13 (by omega))
  have eW : W00 s1 = W00 sx := by
    funext a b
    unfold W00
    rw [ct, f1 15 (by omega)]
  refine ok_mono (pa_20 (A := s1) (n := rk s1 12) (W0 := W00 s1) (t0 := s5) m1 rfl (W00_WB i1.1) (fun T => ⟨fun c h8 h37 => by rw [f5 c h8]; exact f3 c (by omega) (by omega) (by omega), by rw [e5, up2_e]; rfl, ⟨fun i hi => by rw [f5 41 (by decide), f5 42 (by decide)]; exact hp.1 i hi, fun i j hi => by rw [f5 41 (by decide), eeS]; exact hp.2.1 i j hi, fun i j hj => by rw [f5 42 (by decide), eeS]; exact hp.2.2 i j hj⟩, fun a b ha hb => by rw [f5 40 (by decide), v3 a b ha hb]; exact rdC23 i1.1, fun j => by rw [f5 43 (by decide), f3 43 (by decide) (by decide) (by decide)]; exact rdC43 i1.1, fun j => by rw [f5 44 (by decide), f3 44 (by decide) (by decide) (by decide)]; exact rdC44 i1.1, ⟨fun a b ca cb' => ?_, fun a b z => ?_⟩, fun j hj => absurd hj (Nat.not_lt_zero _)⟩)) (fun q hq => ?_)
  · have la := rk_lt ca.2 ca.1
    have lb := rk_lt cb'.2 cb'.1
    have oa := ofn_n ca.1
    have ob := ofn_n cb'.1
    have cla := cl_i (i := Int32.ofNat a) (by omega)
    have clb := cl_i (i := Int32.ofNat b) (by omega)
    rw [f5 40 (by decide), v3 _ _ la lb, m1.2.2.2.1 _ _ la lb, (m1.2.1 _ ca.1 ca.2).1, (m1.2.1 _ cb'.1 cb'.2).1, show (Int32.ofNat a).toNatClampNeg = a by omega, show (Int32.ofNat b).toNatClampNeg = b by omega]
    unfold W00
    rw [if_pos ⟨ca, cb'⟩]
  · unfold W00
    rw [if_neg z]
  · obtain ⟨T, k, b, p1, p2, p3, p4, p5, p6⟩ := hq
    rw [eW] at p1
    refine ⟨T, k, b, p1, p2, fun c h1 h2 => ?_, ?_, ?_, p6⟩
    · show (if c = 3 ∨ (17 ≤ c ∧ c ≤ 23) then sx c else q.2 c) = sx c
      by_cases w : c = 3 ∨ (17 ≤ c ∧ c ≤ 23)
      · rw [if_pos w]
      · rw [if_neg w, p3 c h1 h2]; exact f1 c w
    · show ((if (8 = 3 ∨ (17 ≤ 8 ∧ 8 ≤ 23)) then sx 8 else q.2 8) 1).toInt = _
      rw [if_neg (by decide)]
      exact p4
    · intro j hj
      have := p5 j hj
      show ((if (37 = 3 ∨ (17 ≤ 37 ∧ 37 ≤ 23)) then sx 37 else q.2 37) j).toInt = _ ∧ ((if (38 = 3 ∨ (17 ≤ 38 ∧ 38 ≤ 23)) then sx 38 else q.2 38) j).toInt = _ ∧ _ ∧ ∀ i, _ → ((if (39 = 3 ∨ (17 ≤ 39 ∧ 39 ≤ 23)) then sx 39 else q.2 39) (12 * j + i)).toInt = _
      rw [if_neg (by decide), if_neg (by decide), if_neg (by decide)]
      exact this
end
/-! rings: the reference's pack -/
theorem uL_e {f : Lg} {k j : Nat} {v : Int64} : up2L f k j v k j = v := by
  rw [up2L_s]
  exact if_pos rfl
theorem uL_o {f : Lg} {k j b : Nat} {v : Int64} (h : b ≠ j) : up2L f k j v k b = f k b := by
  rw [up2L_s]
  exact if_neg h
theorem mod_nx {v3 v6 : Int32} {L i : Nat} (hL : v3.toInt = (L : Int)) (hi : v6.toInt = (i : Int)) (L2 : 2 ≤ L) (L12 : L ≤ 12) (iL : i < L) : ((v6 + (1 : Int32)) - (v6 + (1 : Int32)) / v3 * v3).toInt = (nxi L i : Int) := by
  have a := add_c (a := v6) (b := (1 : Int32)) 1 (by decide) (by omega) (by omega)
  have d := div_i (a := v6 + (1 : Int32)) (b := v3) (L : Int) hL (by omega) (by omega)
  unfold nxi
  by_cases c : i + 1 < L
  · rw [if_pos c]
    have d0 : ((v6 + (1 : Int32)) / v3).toInt = 0 := by
      rw [d, a, hi]
      exact Int.ediv_eq_zero_of_lt (by omega) (by omega)
    have m := mul_r (a := (v6 + (1 : Int32)) / v3) (b := v3) (L : Int) hL (by rw [d0]; omega) (by rw [d0]; omega)
    rw [d0, Int.zero_mul] at m
    have s := sub_i (a := v6 + (1 : Int32)) (b := (v6 + (1 : Int32)) / v3 * v3) (by omega) (by omega)
    omega
  · rw [if_neg c]
    have d0 : ((v6 + (1 : Int32)) / v3).toInt = 1 := by
      rw [d, a, hi, show (i : Int) + 1 = (L : Int) by omega]
      exact Int.ediv_self (by omega)
    have m := mul_r (a := (v6 + (1 : Int32)) / v3) (b := v3) (L : Int) hL (by rw [d0]; omega) (by rw [d0]; omega)
    rw [d0, Int.one_mul] at m
    have s := sub_i (a := v6 + (1 : Int32)) (b := (v6 + (1 : Int32)) / v3 * v3) (by omega) (by omega)
    omega
/-- the rings that stand in the reference -/
def TBm (l : Lg) (T : RgT) (k : Nat) : Prop := ∀ j, j < k → (l 12 (14 * j)).toInt = (T j).2.1 ∧ (l 12 (14 * j + 1)).toInt = ((T j).1 : Int) ∧ (2 ≤ (T j).1 ∧ (T j).1 ≤ 12) ∧ ∀ i, i < (T j).1 → (l 12 (14 * j + 2 + i)).toInt = ((T j).2.2 i : Int)
section
variable {sx sm : Sg} {lm : Lg}
/-- what has changed in the reference -/
def FPm (sm t : Sg) : Prop := (∀ c, c ≠ 0 → c ≠ 10 → c ≠ 11 → t c = sm c) ∧ (∀ j, j ≠ 17 → t 0 j = sm 0 j) ∧ ∀ j, 0 ≤ (t 11 j).toInt ∧ (t 11 j).toInt ≤ 11
def LFm (lm l : Lg) : Prop := ∀ k, k ≠ 12 → l k = lm k
def V10 (t : Sg) (a b : Nat) : Int := (t 10 (12 * a + b)).toInt
set_option maxHeartbeats 4000000 in
theorem pk_181 {t0 : Sg} {l0 : Lg} {L k : Nat} {v1 v4 : Int64} {P : Int64 × Sg × Lg → Prop} {r77 : (Int64 × Int32 × Sg × Lg) → Option (Int64 × Sg × Lg)} (ht0 : FPm sm t0) (hl0 : LFm lm l0) (hk : (t0 0 17).toInt = (k : Int)) (k1 : k ≤ 131) (L2 : 2 ≤ L) (L12 : L ≤ 12) (inj : ∀ i j, i < j → j < L → rw11 t0 i ≠ rw11 t0 j) (s0 : 0 ≤ v4.toInt) (s1 : v4.toInt ≤ 1000000) (rg : ∀ a b, a < 12 → b < 12 → 0 ≤ V10 t0 a b ∧ V10 t0 a b ≤ 1000000)
    (hr : ∀ (t : Sg) (l : Lg), FPm sm t → LFm lm l → t 11 = t0 11 → (t 0 17).toInt = (k : Int) → (∀ a b, a < 12 → b < 12 → (onI L (rw11 t0) L a b → V10 t a b = V10 t0 a b - v4.toInt) ∧ (¬ onI L (rw11 t0) L a b → V10 t a b = V10 t0 a b)) → (∀ x, ¬ (14 * k + 2 ≤ x ∧ x < 14 * k + 2 + L) → l 12 x = l0 12 x) → (∀ i, i < L → (l 12 (14 * k + 2 + i)).toInt = (rw11 t0 i : Int)) → Ok P (lt ((t 0 17) + (1 : Int32)) (fun x2 => lt (up2 t 0 17 x2) (fun sg3 => lt (v1 + v4) (fun x4 => bnd3 (fX12_ringNext sg3 l) (fun y5 sg6 lg7 => r77 (x4, y5, sg6, lg7))))))) : Ok P (LX12_pack_181 r77 (v1, Int32.ofNat L, v4, (0 : Int32), t0, l0)) := by
  have k0 : (0 : Int32).toInt = 0 := by decide
  have oL := ofn_x (X := L) (by omega)
  unfold LX12_pack_181
  refine ok_loop (I := fun (z : Int64 × Int32 × Int64 × Int32 × Sg × Lg) => z.1 = v1 ∧ z.2.1 = Int32.ofNat L ∧ z.2.2.1 = v4 ∧ 0 ≤ z.2.2.2.1.toInt ∧ z.2.2.2.1.toInt ≤ (L : Int) ∧ FPm sm z.2.2.2.2.1 ∧ LFm lm z.2.2.2.2.2 ∧ z.2.2.2.2.1 11 = t0 11 ∧ (z.2.2.2.2.1 0 17).toInt = (k : Int) ∧ (∀ a b, a < 12 → b < 12 → (onI L (rw11 t0) z.2.2.2.1.toInt.toNat a b → V10 z.2.2.2.2.1 a b = V10 t0 a b - v4.toInt) ∧ (¬ onI L (rw11 t0) z.2.2.2.1.toInt.toNat a b → V10 z.2.2.2.2.1 a b = V10 t0 a b)) ∧ (∀ x, ¬ (14 * k + 2 ≤ x ∧ x < 14 * k + 2 + L) → z.2.2.2.2.2 12 x = l0 12 x) ∧ ∀ i : Nat, (i : Int) < z.2.2.2.1.toInt → (z.2.2.2.2.2 12 (14 * k + 2 + i)).toInt = (rw11 t0 i : Int)) (m := fun (z : Int64 × Int32 × Int64 × Int32 × Sg × Lg) => (13 - z.2.2.2.1.toInt).toNat) _ ?_ ?_ _ ?_
  · intro z hz
    have := hz.2.2.2.1
    show (13 - z.2.2.2.1.toInt).toNat < 10000
    omega
  · intro rec z hz hrec
    obtain ⟨a1, a2, a3, v6, t, l⟩ := z
    replace hz : a1 = v1 ∧ a2 = Int32.ofNat L ∧ a3 = v4 ∧ 0 ≤ v6.toInt ∧ v6.toInt ≤ (L : Int) ∧ FPm sm t ∧ LFm lm l ∧ t 11 = t0 11 ∧ (t 0 17).toInt = (k : Int) ∧ (∀ a b, a < 12 → b < 12 → (onI L (rw11 t0) v6.toInt.toNat a b → V10 t a b = V10 t0 a b - v4.toInt) ∧ (¬ onI L (rw11 t0) v6.toInt.toNat a b → V10 t a b = V10 t0 a b)) ∧ (∀ x, ¬ (14 * k + 2 ≤ x ∧ x < 14 * k + 2 + L) → l 12 x = l0 12 x) ∧ ∀ i : Nat, (i : Int) < v6.toInt → (l 12 (14 * k + 2 + i)).toInt = (rw11 t0 i : Int) := hz
    obtain ⟨e1, e2, e3, b0, b1, ht, hl, e11, e17, hV, hx, hi⟩ := hz
    rw [e1, e2, e3]
    show Ok P (fX12_pack_181 r77 rec v1 (Int32.ofNat L) v4 v6 t l)
    unfold fX12_pack_181
    have c6 := cl_i b0
    refine ok_ite (fun c => ?_) (fun c => ?_)
    · replace c := i_le.mp c
      rw [oL] at c
      rw [show v6.toInt.toNat = L by omega] at hV
      exact hr t l ht hl e11 e17 hV hx (fun i hi' => hi i (by omega))
    · replace c := i_nle.mp c
      rw [oL] at c
      obtain ⟨i, hiv⟩ : ∃ i : Nat, v6.toInt = (i : Int) := ⟨v6.toInt.toNat, by omega⟩
      rw [show v6.toInt.toNat = i by omega] at hV
      have ra := ht.2.2 i
      have rb := ht.2.2 (nxi L i)
      have L0 : 0 < L := by omega
      have nl := nxi_lt (i := i) L0
      have ea : (t 11 i).toInt = (rw11 t0 i : Int) := by unfold rw11; rw [← e11]; omega
      have eb : (t 11 (nxi L i)).toInt = (rw11 t0 (nxi L i) : Int) := by unfold rw11; rw [← e11]; omega
      refine ok_gin (by omega) (by omega) ?_
      rw [show v6.toNatClampNeg = i by omega]
      refine ok_lt (fun x10 g10 => ?_)
      have m1 := mul_l (a := (14 : Int32)) (b := t 0 17) 14 (by decide) (by omega) (by omega)
      have m2 := add_c (a := (14 : Int32) * (t 0 17)) (b := (2 : Int32)) 2 (by decide) (by omega) (by omega)
      have m3 := add_i (a := (14 : Int32) * (t 0 17) + (2 : Int32)) (b := v6) (by omega) (by omega)
      have m4 := cl_i (i := (14 : Int32) * (t 0 17) + (2 : Int32) + v6) (by omega)
      refine ok_gin (by omega) (by omega) ?_
      refine ok_lt (fun l12 g12 => ?_)
      rw [show ((14 : Int32) * (t 0 17) + (2 : Int32) + v6).toNatClampNeg = 14 * k + 2 + i by omega] at g12
      refine ok_gin (by omega) (by omega) ?_
      refine ok_gne (by omega) ?_
      have md := mod_nx (v3 := Int32.ofNat L) (v6 := v6) (L := L) (i := i) oL hiv L2 L12 (by omega)
      refine ok_lt (fun x15 g15 => ?_)
      rw [← g15] at md
      have c15 := cl_i (i := x15) (by omega)
      refine ok_gin (by omega) (by omega) ?_
      rw [show x15.toNatClampNeg = nxi L i by omega]
      have ix := ix12 (a := t 11 i) (b := t 11 (nxi L i)) ra.1 ra.2 rb.1 rb.2
      generalize hA : rw11 t0 i = a at *
      generalize hB : rw11 t0 (nxi L i) = b at *
      have a12 : a < 12 := by omega
      have b12 : b < 12 := by omega
      refine ok_lt (fun x17 g17 => ?_)
      rw [g17]
      refine ok_gin (by omega) (by omega) ?_
      rw [ix.1, show 12 * (t 11 i).toInt.toNat + (t 11 (nxi L i)).toInt.toNat = 12 * a + b by omega]
      have notyet : ¬ onI L (rw11 t0) i a b := by
        rintro ⟨j, j1, j2, -⟩
        rw [← hA] at j2
        exact inj j i j1 (by omega) j2.symm
      have val := (hV a b a12 b12).2 notyet
      have r0 := rg a b a12 b12
      unfold V10 at val r0
      have w32 : v4.toInt32.toInt = v4.toInt := by rw [Int64.toInt_toInt32]; exact bm_i (by omega) (by omega)
      have sb := sub_i (a := t 10 (12 * a + b)) (b := v4.toInt32) (by omega) (by omega)
      refine ok_lt (fun x19 g19 => ?_)
      rw [← g19] at sb
      refine ok_gin (by omega) (by omega) ?_
      refine ok_lt (fun s21 g21 => ?_)
      refine ok_lt (fun x22 g22 => ?_)
      replace g22 : x22.toInt = v6.toInt + 1 := by rw [g22]; exact add_c 1 (by decide) (by omega) (by omega)
      refine hrec (v1, Int32.ofNat L, v4, x22, s21, l12) ⟨rfl, rfl, rfl, by show 0 ≤ x22.toInt; omega, by show x22.toInt ≤ (L : Int); omega, ?_, ?_, ?_, ?_, ?_, ?_, ?_⟩ (show (13 - x22.toInt).toNat < (13 - v6.toInt).toNat by omega)
      · show FPm sm s21
        exact ⟨fun c h0 h1 h2 => by rw [g21, up2_n h1]; exact ht.1 c h0 h1 h2, fun j hj => by rw [g21, up2_n (by decide)]; exact ht.2.1 j hj, fun j => by rw [g21, up2_n (by decide)]; exact ht.2.2 j⟩
      · show LFm lm l12
        intro kk hkk
        rw [g12, up2L_n hkk]; exact hl kk hkk
      · show s21 11 = t0 11
        rw [g21, up2_n (by decide)]; exact e11
      · show (s21 0 17).toInt = _
        rw [g21, up2_n (by decide)]; exact e17
      · show ∀ a' b', a' < 12 → b' < 12 → (onI L (rw11 t0) x22.toInt.toNat a' b' → V10 s21 a' b' = _) ∧ (¬ onI L (rw11 t0) x22.toInt.toNat a' b' → V10 s21 a' b' = _)
        rw [show x22.toInt.toNat = i + 1 by omega]
        intro a' b' ha' hb'
        unfold V10
        by_cases w : a' = a ∧ b' = b
        · rw [w.1, w.2, g21, up2_e]
          exact ⟨fun _ => by omega, fun z => absurd ⟨i, by omega, hA.symm, hB.symm⟩ z⟩
        · rw [g21, up2_o (Or.inr (by omega))]
          have old := hV a' b' ha' hb'
          unfold V10 at old
          refine ⟨fun z => old.1 ?_, fun z => old.2 (fun y => z ?_)⟩
          · obtain ⟨j, j1, j2, j3⟩ := z
            refine ⟨j, ?_, j2, j3⟩
            have : j ≠ i := fun y => w ⟨by rw [j2, y, hA], by rw [j3, y, hB]⟩
            omega
          · obtain ⟨j, j1, j2, j3⟩ := y
            exact ⟨j, by omega, j2, j3⟩
      · show ∀ x, _ → l12 12 x = l0 12 x
        intro x hx'
        rw [g12, uL_o (by omega)]; exact hx x hx'
      · show ∀ j : Nat, (j : Int) < x22.toInt → (l12 12 (14 * k + 2 + j)).toInt = (rw11 t0 j : Int)
        intro j hj
        by_cases w : j = i
        · rw [w, g12, uL_e, g10, Int32.toInt_toInt64, hA]; exact ea
        · rw [g12, uL_o (by omega)]; exact hi j (by omega)
  · refine ⟨rfl, rfl, rfl, by show 0 ≤ (0 : Int32).toInt; omega, by show (0 : Int32).toInt ≤ (L : Int); omega, ht0, hl0, rfl, hk, fun a b _ _ => ⟨fun z => ?_, fun _ => rfl⟩, fun _ _ => rfl, fun i hi => ?_⟩
    · obtain ⟨j, j1, -⟩ := z
      replace j1 : j < (0 : Int32).toInt.toNat := j1
      rw [k0] at j1
      exact absurd j1 (Nat.not_lt_zero _)
    · replace hi : (i : Int) < (0 : Int32).toInt := hi
      omega
end
/-! rings: the reference's pack as a whole -/
section
variable {sx sm : Sg} {lm : Lg}
/-- what the reference has after k rings -/
def PIm (sm : Sg) (lm : Lg) (T : RgT) (k : Nat) (t : Sg) (l : Lg) (W : Nat → Nat → Int) : Prop := FPm sm t ∧ LFm lm l ∧ (t 0 17).toInt = (k : Int) ∧ (∀ a b, a < 12 → b < 12 → V10 t a b = W a b) ∧ TBm l T k
def PMq (sm : Sg) (lm : Lg) (W0 : Nat → Nat → Int) (q : Int64 × Sg × Lg) : Prop := ∃ T k b, PkF W0 T k b ∧ q.1 = Int64.ofInt b ∧ FPm sm q.2.1 ∧ LFm lm q.2.2 ∧ (q.2.1 0 17).toInt = (k : Int) ∧ TBm q.2.2 T k
theorem eM_eW {t : Sg} {W W0 : Nat → Nat → Int} {H : Nat} (hv : ∀ a b, a < 12 → b < 12 → V10 t a b = W a b) (H12 : H ≤ 12) (hz : ∀ a b, ¬ (a < H ∧ b < H) → W a b = 0) : eM t H = eW W := by
  funext a b
  refine propext ⟨?_, ?_⟩
  · rintro ⟨h1, h2, h3⟩
    refine ⟨by omega, by omega, ?_⟩
    rw [← hv a b (by omega) (by omega)]
    exact h3
  · rintro ⟨h1, h2, h3⟩
    have c : a < H ∧ b < H := Classical.byContradiction fun z => by
      rw [hz a b z] at h3
      exact absurd h3 (by decide)
    refine ⟨c.1, c.2, ?_⟩
    rw [← hv a b h1 h2] at h3
    exact h3
set_option maxHeartbeats 4000000 in
theorem pk_77 {W0 : Nat → Nat → Int} {H : Nat} {t0 : Sg} {l0 : Lg} {y0 : Int32} (hH : (sm 1 0).toInt = (H : Int)) (H12 : H ≤ 12) (hW : WB W0) (hz0 : ∀ a b, ¬ (a < H ∧ b < H) → W0 a b = 0) (h0 : ∀ T, PIm sm lm T 0 t0 l0 W0) (r0 : (y0 = 0 ∧ ∀ L p, ¬ VRg (eW W0) L p) ∨ ∃ L, y0 = Int32.ofNat L ∧ 2 ≤ L ∧ L ≤ 12 ∧ LRg (eW W0) L (rw11 t0)) : Ok (PMq sm lm W0) (LX12_pack_77 ((0 : Int64), y0, t0, l0)) := by
  have k0 : (0 : Int32).toInt = 0 := by decide
  unfold LX12_pack_77
  refine ok_loop (I := fun (z : Int64 × Int32 × Sg × Lg) => ∃ T k W b, PkS W0 T k W b ∧ z.1 = Int64.ofInt b ∧ PIm sm lm T k z.2.2.1 z.2.2.2 W ∧ ((z.2.1 = 0 ∧ ∀ L p, ¬ VRg (eW W) L p) ∨ ∃ L, z.2.1 = Int32.ofNat L ∧ 2 ≤ L ∧ L ≤ 12 ∧ LRg (eW W) L (rw11 z.2.2.1))) (m := fun (z : Int64 × Int32 × Sg × Lg) => (133 - (z.2.2.1 0 17).toInt).toNat) _ ?_ ?_ _ ?_
  · intro z hz
    obtain ⟨T, k, W, b, -, -, h, -⟩ := hz
    have := h.2.2.1
    show (133 - (z.2.2.1 0 17).toInt).toNat < 10000
    omega
  · intro rec z hz hrec
    obtain ⟨v1, v3, t, l⟩ := z
    replace hz : ∃ T k W b, PkS W0 T k W b ∧ v1 = Int64.ofInt b ∧ PIm sm lm T k t l W ∧ ((v3 = 0 ∧ ∀ L p, ¬ VRg (eW W) L p) ∨ ∃ L, v3 = Int32.ofNat L ∧ 2 ≤ L ∧ L ≤ 12 ∧ LRg (eW W) L (rw11 t)) := hz
    obtain ⟨T, k, W, b, ps, eb, ⟨ht, hl, e17, hv, tb⟩, alt⟩ := hz
    obtain ⟨iW, ic, iz⟩ := PkS_inv hW _ W b ps
    show Ok _ (fX12_pack_77 rec v1 v3 t l)
    unfold fX12_pack_77
    rcases alt with ⟨z1, z2⟩ | ⟨L, z1, z2, z3, z4⟩
    · rw [z1, if_pos (by decide)]
      exact ok_some ⟨T, k, b, ⟨W, ps, z2⟩, eb, ht, hl, e17, tb⟩
    · have oL := ofn_x (X := L) (by omega)
      have L0 : 0 < L := by omega
      have lt12 := VRg_in (N := 12) (fun a b z => ⟨z.1, z.2.1⟩) z4.1
      have sb := shr_bd iW z4.1
      have dn := npk_lt iW z4.1
      rw [z1, if_neg (fun z => by have := i_le.mp z; omega)]
      -- the share
      unfold LX12_pack_89
      refine ok_loop (I := fun (z : Int64 × Int32 × Int64 × Int32 × Sg × Lg) => z.1 = v1 ∧ z.2.1 = Int32.ofNat L ∧ 0 ≤ z.2.2.2.1.toInt ∧ z.2.2.2.1.toInt ≤ (L : Int) ∧ z.2.2.2.2 = (t, l) ∧ z.2.2.1.toInt = mnI 1000000000000000 (fun i => W (rw11 t i) (rw11 t (nxi L i))) z.2.2.2.1.toInt.toNat) (m := fun (z : Int64 × Int32 × Int64 × Int32 × Sg × Lg) => (13 - z.2.2.2.1.toInt).toNat) _ ?_ ?_ _ ?_
      · intro z hz
        have := hz.2.2.1
        show (13 - z.2.2.2.1.toInt).toNat < 10000
        omega
      · intro rec2 z hz hrec2
        obtain ⟨a1, a2, v4, v6, t', l'⟩ := z
        replace hz : a1 = v1 ∧ a2 = Int32.ofNat L ∧ 0 ≤ v6.toInt ∧ v6.toInt ≤ (L : Int) ∧ (t', l') = (t, l) ∧ v4.toInt = mnI 1000000000000000 (fun i => W (rw11 t i) (rw11 t (nxi L i))) v6.toInt.toNat := hz
        obtain ⟨e1, e2, b0, b1, e3, es⟩ := hz
        obtain ⟨y1, y2⟩ := Prod.mk.inj e3
        rw [e1, e2, y1, y2]
        show Ok _ (fX12_pack_89 rec rec2 v1 (Int32.ofNat L) v4 v6 t l)
        unfold fX12_pack_89
        have c6 := cl_i b0
        refine ok_ite (fun c => ?_) (fun c => ?_)
        · replace c := i_le.mp c
          rw [oL] at c
          rw [show v6.toInt.toNat = L by omega, mnI_two (c := 1000000000000000) (d := 1000000) L0 (fun i _ => by have := (iW (rw11 t i) (rw11 t (nxi L i))).2; omega) (fun i _ => (iW _ _).2)] at es
          have es' : v4.toInt = shr W L (rw11 t) := es
          have m1 := mul_l (a := (14 : Int32)) (b := t 0 17) 14 (by decide) (by omega) (by omega)
          have m2 := add_c (a := (14 : Int32) * (t 0 17)) (b := (1 : Int32)) 1 (by decide) (by omega) (by omega)
          have cm1 := cl_i (i := (14 : Int32) * (t 0 17)) (by omega)
          have cm2 := cl_i (i := (14 : Int32) * (t 0 17) + (1 : Int32)) (by omega)
          refine ok_gin (by omega) (by omega) ?_
          refine ok_lt (fun l3 g3 => ?_)
          rw [show ((14 : Int32) * (t 0 17)).toNatClampNeg = 14 * k by omega] at g3
          refine ok_gin (by omega) (by omega) ?_
          refine ok_lt (fun l5 g5 => ?_)
          rw [show ((14 : Int32) * (t 0 17) + (1 : Int32)).toNatClampNeg = 14 * k + 1 by omega] at g5
          have hl5 : LFm lm l5 := fun kk hkk => by rw [g5, up2L_n hkk, g3, up2L_n hkk]; exact hl kk hkk
          refine pk_181 (sm := sm) (lm := lm) (k := k) ht hl5 e17 (by omega) z2 z3 z4.1.2.2.2.2 (by omega) (by omega) (fun a b ha hb => by rw [hv a b ha hb]; exact iW a b) (fun t2 l2 ht2 hl2 e11 e17' hV hx hi => ?_)
          have ad := add_c (a := t2 0 17) (b := (1 : Int32)) 1 (by decide) (by omega) (by omega)
          refine ok_lt (fun x2 q2 => ?_)
          rw [← q2] at ad
          refine ok_lt (fun s3 q3 => ?_)
          refine ok_lt (fun x4 q4 => ?_)
          have f3 : FPm sm s3 := ⟨fun c h0 h1 h2 => by rw [q3, up2_n h0]; exact ht2.1 c h0 h1 h2, fun j hj => by rw [q3, up2_o (Or.inr hj)]; exact ht2.2.1 j hj, fun j => by rw [q3, up2_n (by decide)]; exact ht2.2.2 j⟩
          have v10 : ∀ a b, a < 12 → b < 12 → V10 s3 a b = lfW W L (rw11 t) a b := fun a b ha hb => by
            have e : V10 s3 a b = V10 t2 a b := by unfold V10; rw [q3, up2_n (by decide)]
            have h := hV a b ha hb
            rw [e]
            by_cases w : onR L (rw11 t) a b
            · rw [lfW_p w, h.1 w, hv a b ha hb, es']
            · rw [lfW_n w, h.2 w, hv a b ha hb]
          -- the table grows
          have Tn : ∃ T' : RgT, (∀ j, j ≠ k → T' j = T j) ∧ T' k = (L, shr W L (rw11 t), rw11 t) := ⟨fun j => if j = k then (L, shr W L (rw11 t), rw11 t) else T j, fun j hj => if_neg hj, if_pos rfl⟩
          obtain ⟨T', t1', t2'⟩ := Tn
          have ps' : PkS W0 T' (k + 1) (lfW W L (rw11 t)) (b + shr W L (rw11 t)) := by
            refine ⟨W, b, PkS_cg _ W b ps (fun j hj => t1' j (by omega)), ?_⟩
            rw [t2']
            exact ⟨z4, rfl, rfl, rfl⟩
          obtain ⟨iW', ic', iz'⟩ := PkS_inv hW _ _ _ ps'
          have eMW : eM s3 H = eW (lfW W L (rw11 t)) := eM_eW (W0 := W0) v10 H12 (fun a b z => iz' a b (hz0 a b z))
          have hH3 : (s3 1 0).toInt = (H : Int) := by rw [f3.1 1 (by decide) (by decide) (by decide)]; exact hH
          refine ok_bnd3 (m_ringNext (sm := s3) (lm := l2) hH3 H12 (t0 := s3) ⟨fun _ _ => rfl, f3.2.2⟩) (fun y5 s6 l7 h6 => ?_)
          obtain ⟨g1, g2, g4⟩ := h6
          replace g1 : l7 = l2 := g1
          replace g2 : F11 s3 s6 := g2
          rw [g1]
          have f6 : FPm sm s6 := ⟨fun c h0 h1 h2 => by rw [g2.1 c h2]; exact f3.1 c h0 h1 h2, fun j hj => by rw [g2.1 0 (by decide)]; exact f3.2.1 j hj, g2.2⟩
          have e176 : (s6 0 17).toInt = (k : Int) + 1 := by rw [g2.1 0 (by decide), q3, up2_e]; omega
          refine hrec (x4, y5, s6, l2) ⟨T', k + 1, lfW W L (rw11 t), b + shr W L (rw11 t), ps', ?_, ⟨f6, hl2, by rw [e176]; rfl, fun a b ha hb => ?_, fun j hj => ?_⟩, ?_⟩ ?_
          · show x4 = _
            rw [q4, eb, Int64.ofInt_add, ← es', Int64.ofInt_toInt]
          · have e : V10 s6 a b = V10 s3 a b := by unfold V10; rw [g2.1 10 (by decide)]
            rw [e]; exact v10 a b ha hb
          · show (l2 12 (14 * j)).toInt = _ ∧ (l2 12 (14 * j + 1)).toInt = _ ∧ _ ∧ ∀ i, _ → (l2 12 (14 * j + 2 + i)).toInt = _
            by_cases w : j = k
            · rw [w, t2']
              refine ⟨?_, ?_, ⟨z2, z3⟩, fun i hi' => hi i hi'⟩
              · rw [hx _ (by omega), g5, uL_o (by omega), g3, uL_e]; exact es'
              · rw [hx _ (by omega), g5, uL_e, Int32.toInt_toInt64]; exact oL
            · rw [t1' j w]
              have old := tb j (by omega)
              have ol := old.2.2.1
              refine ⟨?_, ?_, ol, fun i hi' => ?_⟩
              · rw [hx _ (by omega), g5, uL_o (by omega), g3, uL_o (by omega)]; exact old.1
              · rw [hx _ (by omega), g5, uL_o (by omega), g3, uL_o (by omega)]; exact old.2.1
              · rw [hx _ (by omega), g5, uL_o (by omega), g3, uL_o (by omega)]; exact old.2.2.2 i hi'
          · rw [eMW] at g4
            exact g4
          · show (133 - (s6 0 17).toInt).toNat < (133 - (t 0 17).toInt).toNat
            omega
        · replace c := i_nle.mp c
          rw [oL] at c
          obtain ⟨i, hiv⟩ : ∃ i : Nat, v6.toInt = (i : Int) := ⟨v6.toInt.toNat, by omega⟩
          have ra := ht.2.2 i
          have rb := ht.2.2 (nxi L i)
          have nl := nxi_lt (i := i) L0
          refine ok_gin (by omega) (by omega) ?_
          rw [show v6.toNatClampNeg = i by omega]
          refine ok_gne (by omega) ?_
          have md := mod_nx (v3 := Int32.ofNat L) (v6 := v6) (L := L) (i := i) oL hiv z2 z3 (by omega)
          refine ok_lt (fun x8 g8 => ?_)
          rw [← g8] at md
          have c8 := cl_i (i := x8) (by omega)
          refine ok_gin (by omega) (by omega) ?_
          rw [show x8.toNatClampNeg = nxi L i by omega]
          have ix := ix12 (a := t 11 i) (b := t 11 (nxi L i)) ra.1 ra.2 rb.1 rb.2
          refine ok_lt (fun x10 g10 => ?_)
          rw [g10]
          refine ok_gin (by omega) (by omega) ?_
          rw [ix.1]
          have val : (t 10 (12 * (t 11 i).toInt.toNat + (t 11 (nxi L i)).toInt.toNat)).toInt = W (rw11 t i) (rw11 t (nxi L i)) := hv (rw11 t i) (rw11 t (nxi L i)) (lt12 i (by omega)) (lt12 _ nl)
          refine ok_lt (fun x12 g12 => ?_)
          have vx : x12.toInt = W (rw11 t i) (rw11 t (nxi L i)) := by rw [g12, Int32.toInt_toInt64]; exact val
          have go : ∀ w0 : Int64, w0.toInt = mnI 1000000000000000 (fun i => W (rw11 t i) (rw11 t (nxi L i))) (i + 1) → Ok (PMq sm lm W0) (fX12_pack_140 rec rec2 v1 (Int32.ofNat L) v6 w0 t l) := by
            intro w0 hw0
            unfold fX12_pack_140
            refine ok_lt (fun x e => ?_)
            replace e : x.toInt = v6.toInt + 1 := by rw [e]; exact add_c 1 (by decide) (by omega) (by omega)
            refine hrec2 (v1, Int32.ofNat L, w0, x, t, l) ⟨rfl, rfl, by show 0 ≤ x.toInt; omega, by show x.toInt ≤ (L : Int); omega, rfl, ?_⟩ (show (13 - x.toInt).toNat < (13 - v6.toInt).toNat by omega)
            show w0.toInt = mnI _ _ x.toInt.toNat
            rw [show x.toInt.toNat = i + 1 by omega]
            exact hw0
          rw [show v6.toInt.toNat = i by omega] at es
          have un1 : mnI 1000000000000000 (fun i => W (rw11 t i) (rw11 t (nxi L i))) (i + 1) = if W (rw11 t i) (rw11 t (nxi L i)) < v4.toInt then W (rw11 t i) (rw11 t (nxi L i)) else v4.toInt := by rw [es]; rfl
          refine ok_ite (fun d => ?_) (fun d => ?_)
          · replace d := j_le.mp d
            exact go v4 (by rw [un1, if_neg (by omega)])
          · replace d := j_nle.mp d
            exact go x12 (by rw [un1, if_pos (by omega)]; exact vx)
      · refine ⟨rfl, rfl, by show 0 ≤ (0 : Int32).toInt; omega, by show (0 : Int32).toInt ≤ (L : Int); omega, rfl, ?_⟩
        show (1000000000000000 : Int64).toInt = mnI 1000000000000000 _ (0 : Int32).toInt.toNat
        rw [k0]
        show (1000000000000000 : Int64).toInt = 1000000000000000
        decide
  · exact ⟨fun _ => (0, 0, fun _ => 0), 0, W0, 0, ⟨rfl, rfl⟩, (show (0 : Int64) = Int64.ofInt 0 by decide), h0 _, r0⟩
end
/-! pack, ring -/
section
variable {sx sm : Sg} {lm : Lg}
set_option maxHeartbeats 4000000 in
theorem pk_10 {s0 : Sg} {v1 : Int32} {P : Int64 × Sg × Lg → Prop} {r2 : (Int32 × Sg × Lg) → Option (Int64 × Sg × Lg)} (hF : FEq sx (sm 1)) (sv : SV (sm 1)) (h0 : ∀ c, c ≠ 10 → s0 c = sm c) (a0 : 0 ≤ v1.toInt) (a1 : v1.toInt ≤ 11) (hs : ∀ a b, a < v1.toInt.toNat → b < 12 → V10 s0 a b = W00 sx a b)
    (hr : ∀ (x : Int32) (t : Sg), x.toInt = v1.toInt + 1 → (∀ c, c ≠ 10 → t c = sm c) → (∀ a b, a < v1.toInt.toNat + 1 → b < 12 → V10 t a b = W00 sx a b) → Ok P (r2 (x, t, lm))) : Ok P (LX12_pack_10 r2 (v1, (0 : Int32), s0, lm)) := by
  have k0 : (0 : Int32).toInt = 0 := by decide
  have k12 : (12 : Int32).toInt = 12 := by decide
  unfold LX12_pack_10
  refine ok_loop (I := fun (q : Int32 × Int32 × Sg × Lg) => q.1 = v1 ∧ 0 ≤ q.2.1.toInt ∧ q.2.1.toInt ≤ 12 ∧ (∀ c, c ≠ 10 → q.2.2.1 c = sm c) ∧ q.2.2.2 = lm ∧ ∀ a b, (a < v1.toInt.toNat ∨ (a = v1.toInt.toNat ∧ b < q.2.1.toInt.toNat)) → b < 12 → V10 q.2.2.1 a b = W00 sx a b) (m := fun (q : Int32 × Int32 × Sg × Lg) => (13 - q.2.1.toInt).toNat) _ ?_ ?_ _ ?_
  · intro q hq
    have := hq.2.1
    show (13 - q.2.1.toInt).toNat < 10000
    omega
  · intro rec q hq hrec
    obtain ⟨q1, v2, t, l⟩ := q
    replace hq : q1 = v1 ∧ 0 ≤ v2.toInt ∧ v2.toInt ≤ 12 ∧ (∀ c, c ≠ 10 → t c = sm c) ∧ l = lm ∧ ∀ a b, (a < v1.toInt.toNat ∨ (a = v1.toInt.toNat ∧ b < v2.toInt.toNat)) → b < 12 → V10 t a b = W00 sx a b := hq
    obtain ⟨e1, c0, c1, ht, e3, hs⟩ := hq
    rw [e1, e3]
    show Ok P (fX12_pack_10 r2 rec v1 v2 t lm)
    unfold fX12_pack_10
    refine ok_ite (fun c => ?_) (fun c => ?_)
    · replace c := i_le.mp c
      refine ok_lt (fun x e => ?_)
      replace e : x.toInt = v1.toInt + 1 := by rw [e]; exact add_c 1 (by decide) (by omega) (by omega)
      exact hr x t e ht (fun a b ha hb => hs a b (by omega) hb)
    · replace c := i_nle.mp c
      have i12 := ix12 (a := v1) (b := v2) a0 a1 c0 (by omega)
      have go : ∀ w0 : Int32, w0.toInt = W00 sx v1.toInt.toNat v2.toInt.toNat → Ok P (fX12_pack_52 r2 rec v1 v2 w0 ((12 : Int32) * v1 + v2) t lm) := by
        intro w0 hw
        unfold fX12_pack_52
        refine ok_gin (by omega) (by omega) ?_
        refine ok_lt (fun s2 f2 => ?_)
        refine ok_lt (fun x e => ?_)
        replace e : x.toInt = v2.toInt + 1 := by rw [e]; exact add_c 1 (by decide) (by omega) (by omega)
        rw [i12.1] at f2
        refine hrec (v1, x, s2, lm) ⟨rfl, by show 0 ≤ x.toInt; omega, by show x.toInt ≤ 12; omega, fun c hc => by show s2 c = sm c; rw [f2, up2_n hc]; exact ht c hc, rfl, fun a b hab hb => ?_⟩ (show (13 - x.toInt).toNat < (13 - v2.toInt).toNat by omega)
        replace hab : a < v1.toInt.toNat ∨ (a = v1.toInt.toNat ∧ b < x.toInt.toNat) := hab
        show V10 s2 a b = W00 sx a b
        by_cases w : a = v1.toInt.toNat ∧ b = v2.toInt.toNat
        · unfold V10
          rw [w.1, w.2, f2, up2_e]; exact hw
        · have := hs a b (by omega) hb
          unfold V10 at this ⊢
          rw [f2, up2_o (Or.inr (by omega))]; exact this
      have no : ¬ (Ct sx v1.toInt.toNat ∧ Ct sx v2.toInt.toNat) → Ok P (fX12_pack_51 r2 rec v1 v2 ((12 : Int32) * v1 + v2) t lm) := fun z => by
        unfold fX12_pack_51
        refine go 0 ?_
        unfold W00
        rw [if_neg z]; exact k0
      have e1' : t 1 = sm 1 := ht 1 (by decide)
      refine bnd3_of (cts_m hF sv e1' a0 a1) ?_
      by_cases w1 : Ct sx v1.toInt.toNat
      · rw [if_pos w1, ite1]
        refine bnd3_of (cts_m hF sv e1' c0 (by omega)) ?_
        by_cases w2 : Ct sx v2.toInt.toNat
        · rw [if_pos w2, ite1]
          refine bnd3_of (peckOf_is a0 a1 c0 (by omega)) ?_
          have hc1 := cl_i a0
          have hc2 := cl_i c0
          have lt := (of_decide_eq_true w1.2).1
          have row := (hF.2 v1.toInt.toNat lt).2.2.2.2 v2.toInt.toNat (by omega)
          rw [e1', show v1.toNatClampNeg = v1.toInt.toNat by omega, show v2.toNatClampNeg = v2.toInt.toNat by omega, row]
          refine go _ ?_
          unfold W00
          rw [if_pos ⟨w1, w2⟩]
        · rw [if_neg w2, ite0]
          exact no (fun z => w2 z.2)
      · rw [if_neg w1, ite0]
        exact no (fun z => w1 z.1)
  · refine ⟨rfl, by show 0 ≤ (0 : Int32).toInt; omega, by show (0 : Int32).toInt ≤ 12; omega, h0, rfl, fun a b hab hb => ?_⟩
    replace hab : a < v1.toInt.toNat ∨ (a = v1.toInt.toNat ∧ b < (0 : Int32).toInt.toNat) := hab
    exact hs a b (by omega) hb
set_option maxHeartbeats 4000000 in
theorem m_pack (hI : IC0 sx) (hM : IM sm lm) (hF : FEq sx (sm 1)) : Ok (PMq sm lm (W00 sx)) (fX12_pack sm lm) := by
  have k0 : (0 : Int32).toInt = 0 := by decide
  have k12 : (12 : Int32).toInt = 12 := by decide
  have sv := hM.2.2
  have s0 := sv.1
  have s12 := sv.2.1
  obtain ⟨H, hH⟩ : ∃ H : Nat, (sm 1 0).toInt = (H : Int) := ⟨(sm 1 0).toInt.toNat, by omega⟩
  have hz0 : ∀ a b, ¬ (a < H ∧ b < H) → W00 sx a b = 0 := fun a b z => by
    unfold W00
    refine if_neg (fun y => z ?_)
    have ya := Ct_hen hF y.1
    have yb := Ct_hen hF y.2
    omega
  unfold fX12_pack LX12_pack_2
  refine ok_loop (I := fun (q : Int32 × Sg × Lg) => 0 ≤ q.1.toInt ∧ q.1.toInt ≤ 12 ∧ (∀ c, c ≠ 10 → q.2.1 c = sm c) ∧ q.2.2 = lm ∧ ∀ a b, a < q.1.toInt.toNat → b < 12 → V10 q.2.1 a b = W00 sx a b) (m := fun (q : Int32 × Sg × Lg) => (13 - q.1.toInt).toNat) _ ?_ ?_ _ ?_
  · intro q hq
    have := hq.1
    show (13 - q.1.toInt).toNat < 10000
    omega
  · intro rec q hq hrec
    obtain ⟨v1, t, l⟩ := q
    replace hq : 0 ≤ v1.toInt ∧ v1.toInt ≤ 12 ∧ (∀ c, c ≠ 10 → t c = sm c) ∧ l = lm ∧ ∀ a b, a < v1.toInt.toNat → b < 12 → V10 t a b = W00 sx a b := hq
    obtain ⟨c0, c1, ht, e3, hs⟩ := hq
    rw [e3]
    show Ok _ (fX12_pack_2 rec v1 t lm)
    unfold fX12_pack_2
    refine ok_ite (fun c => ?_) (fun c => ?_)
    · replace c := i_le.mp c
      refine ok_lt (fun s2 g2 => ?_)
      have f2 : ∀ c, c ≠ 0 → s2 c = t c := fun c hc => by rw [g2, up2_n hc]
      have r11 : ∀ j, 0 ≤ (s2 11 j).toInt ∧ (s2 11 j).toInt ≤ 11 := fun j => by rw [f2 11 (by decide), ht 11 (by decide)]; exact rdM11 hM
      have fp : FPm sm s2 := ⟨fun c h0 h1 h2 => by rw [f2 c h0]; exact ht c h1, fun j hj => by rw [g2, up2_o (Or.inr hj), ht 0 (by decide)], r11⟩
      have v10 : ∀ a b, a < 12 → b < 12 → V10 s2 a b = W00 sx a b := fun a b ha hb => by
        have : V10 s2 a b = V10 t a b := by unfold V10; rw [f2 10 (by decide)]
        rw [this]; exact hs a b (by omega) hb
      have hH2 : (s2 1 0).toInt = (H : Int) := by rw [fp.1 1 (by decide) (by decide) (by decide)]; exact hH
      refine ok_bnd3 (m_ringNext (sm := s2) (lm := lm) hH2 (by omega) (t0 := s2) ⟨fun _ _ => rfl, r11⟩) (fun y3 s4 l5 h4 => ?_)
      obtain ⟨g1, g3, g4⟩ := h4
      replace g1 : l5 = lm := g1
      replace g3 : F11 s2 s4 := g3
      rw [g1]
      have eMW : eM s2 H = eW (W00 sx) := eM_eW (W0 := W00 sx) v10 (by omega) hz0
      rw [eMW] at g4
      refine pk_77 hH (by omega) (W00_WB hI) hz0 (fun T => ⟨⟨fun c h0 h1 h2 => by rw [g3.1 c h2]; exact fp.1 c h0 h1 h2, fun j hj => by rw [g3.1 0 (by decide)]; exact fp.2.1 j hj, g3.2⟩, fun _ _ => rfl, by rw [g3.1 0 (by decide), g2, up2_e]; rfl, fun a b ha hb => ?_, fun j hj => absurd hj (Nat.not_lt_zero _)⟩) g4
      have : V10 s4 a b = V10 s2 a b := by unfold V10; rw [g3.1 10 (by decide)]
      rw [this]; exact v10 a b ha hb
    · replace c := i_nle.mp c
      refine pk_10 hF sv ht c0 (by omega) hs (fun x t' ex ht' hs' => ?_)
      refine hrec (x, t', lm) ⟨by show 0 ≤ x.toInt; omega, by show x.toInt ≤ 12; omega, ht', rfl, fun a b ha hb => ?_⟩ (show (13 - x.toInt).toNat < (13 - v1.toInt).toNat by omega)
      replace ha : a < x.toInt.toNat := ha
      exact hs' a b (by omega) hb
  · refine ⟨by show 0 ≤ (0 : Int32).toInt; omega, by show (0 : Int32).toInt ≤ 12; omega, fun _ _ => rfl, rfl, fun a b ha hb => ?_⟩
    replace ha : a < (0 : Int32).toInt.toNat := ha
    rw [k0] at ha
    exact absurd ha (Nat.not_lt_zero _)
end
/-- the rings are alike -/
def RKd (sx sm : Sg) (lm : Lg) : Prop := ∃ k : Nat, (sx 8 1).toInt = (k : Int) ∧ (sm 0 17).toInt = (k : Int) ∧ k ≤ 132 ∧ ∀ j, j < k → (sx 37 j).toInt = (lm 12 (14 * j)).toInt ∧ (sx 38 j).toInt = (lm 12 (14 * j + 1)).toInt ∧ (2 ≤ (sx 38 j).toInt ∧ (sx 38 j).toInt ≤ 12) ∧ ∀ i : Nat, (i : Int) < (sx 38 j).toInt → (sx 39 (12 * j + i)).toInt = (lm 12 (14 * j + 2 + i)).toInt
theorem RKd_cg {sx sm sx' sm' : Sg} {lm lm' : Lg} (h : RKd sx sm lm) (e8 : sx' 8 1 = sx 8 1) (e37 : sx' 37 = sx 37) (e38 : sx' 38 = sx 38) (e39 : sx' 39 = sx 39) (e17 : sm' 0 17 = sm 0 17) (e12 : lm' 12 = lm 12) : RKd sx' sm' lm' := by
  obtain ⟨k, a, b, c, d⟩ := h
  refine ⟨k, by rw [e8]; exact a, by rw [e17]; exact b, c, ?_⟩
  rw [e37, e38, e39, e12]
  exact d
theorem val_pack {K : Sg → Sg → Lg → Prop} {n : Nat} {sx sm sx' sm' : Sg} {lm lm' : Lg} {r r' : Int64} (h : Rel K n sx sm lm) (hJ : JC sx) (e1 : fX11_pack sx = some (r, sx')) (e2 : fX12_pack sm lm = some (r', sm', lm')) : r = r' ∧ RKd sx' sm' lm' := by
  obtain ⟨hI, hM, hF, -⟩ := h
  unfold fX11_pack at e1
  obtain ⟨y, s, c1, d1⟩ := p_bnd2 e1
  cases d1
  obtain ⟨T, k, b, p1, p2, p3, p4, p5, p6⟩ := ok_at (c_pack hI hJ) c1
  obtain ⟨U, m, c, u1, u2, u3, u4, u5, u6⟩ := ok_at (m_pack hI.1 hM hF.1) e2
  obtain ⟨q1, q2, q3⟩ := PkF_un p1 u1
  subst q1
  replace p2 : r = Int64.ofInt b := p2
  replace u2 : r' = Int64.ofInt c := u2
  have p4' : (sx' 8 1).toInt = (k : Int) := by
    have z : ((if (8 = 3 ∨ (17 ≤ 8 ∧ 8 ≤ 23)) then sx 8 else sx' 8) 1).toInt = (k : Int) := p4
    rw [if_neg (by decide)] at z
    exact z
  refine ⟨by rw [p2, u2, q2], k, p4', u5, p6, fun j hj => ?_⟩
  have a := p5 j hj
  have b' := u6 j hj
  have e := q3 j hj
  have z : ((if (37 = 3 ∨ (17 ≤ 37 ∧ 37 ≤ 23)) then sx 37 else sx' 37) j).toInt = (T j).2.1 ∧ ((if (38 = 3 ∨ (17 ≤ 38 ∧ 38 ≤ 23)) then sx 38 else sx' 38) j).toInt = ((T j).1 : Int) ∧ (2 ≤ (T j).1 ∧ (T j).1 ≤ 12) ∧ ∀ i, i < (T j).1 → ((if (39 = 3 ∨ (17 ≤ 39 ∧ 39 ≤ 23)) then sx 39 else sx' 39) (12 * j + i)).toInt = ((T j).2.2 i : Int) := a
  rw [if_neg (by decide), if_neg (by decide), if_neg (by decide)] at z
  obtain ⟨z1, z2, z3, z4⟩ := z
  obtain ⟨w1, w2, w3, w4⟩ := b'
  obtain ⟨x1, x2, x3⟩ := e
  refine ⟨by rw [z1, x2]; exact w1.symm, by rw [z2, x1]; exact w2.symm, by omega, fun i hi => ?_⟩
  have hi' : i < (T j).1 := by omega
  rw [z4 i hi', x3 i hi']
  exact (w4 i (by omega)).symm
set_option maxHeartbeats 4000000 in
theorem val_ring {v1 v2 : Int32} {sx sm sx' sm' : Sg} {lm lm' : Lg} {r r' : Int64} (hR : RKd sx sm lm) (e1 : fX11_ring v1 v2 sx = some (r, sx')) (e2 : fX12_ring v1 v2 sm lm = some (r', sm', lm')) : r = r' ∧ sx' = sx ∧ sm' = sm ∧ lm' = lm := by
  have k0 : (0 : Int32).toInt = 0 := by decide
  have k1 : (1 : Int32).toInt = 1 := by decide
  have k2 : (2 : Int32).toInt = 2 := by decide
  have j2 : (2 : Int64).toInt = 2 := by decide
  obtain ⟨k, h1, h2, h3, h4⟩ := hR
  unfold fX11_ring at e1
  unfold fX12_ring at e2
  by_cases c1 : v1 < 0
  · rw [if_pos c1] at e1 e2
    cases e1
    cases e2
    exact ⟨rfl, rfl, rfl, rfl⟩
  · rw [if_neg c1] at e1 e2
    replace c1 := i_nlt.mp c1
    by_cases c2 : (0 : Int32) ≤ v2
    · rw [if_pos c2] at e1 e2
      replace c2 := i_le.mp c2
      by_cases c3 : sx 8 1 ≤ v1
      · rw [if_pos c3] at e1
        rw [if_neg (fun z => by have := i_lt.mp z; have := i_le.mp c3; omega)] at e2
        cases e1
        cases e2
        exact ⟨rfl, rfl, rfl, rfl⟩
      · have c3' := i_nle.mp c3
        rw [if_neg c3] at e1
        rw [if_pos (i_lt.mpr (by omega))] at e2
        obtain ⟨y, s, d1, f1⟩ := p_bnd2 e1
        cases f1
        obtain ⟨g1, g2, g3, g4⟩ := h4 v1.toInt.toNat (by omega)
        have cv := cl_i (i := v1) (by omega)
        have m1 := mul_l (a := (14 : Int32)) (b := v1) 14 (by decide) (by omega) (by omega)
        have m2 := add_c (a := (14 : Int32) * v1) (b := (1 : Int32)) 1 (by decide) (by omega) (by omega)
        have m3 := cl_i (i := (14 : Int32) * v1 + (1 : Int32)) (by omega)
        obtain ⟨x4, e4, f2⟩ := p_lt e2
        replace f2 := p_gin f2
        rw [e4, show ((14 : Int32) * v1 + (1 : Int32)).toNatClampNeg = 14 * v1.toInt.toNat + 1 by omega] at f2
        have ad : ((2 : Int64) + lm 12 (14 * v1.toInt.toNat + 1)).toInt = 2 + (sx 38 v1.toInt.toNat).toInt := by
          rw [add64b (by rw [j2, ← g2]; omega) (by rw [j2, ← g2]; omega), j2, g2]
        unfold fX10_tell at d1
        rw [show v1.toNatClampNeg = v1.toInt.toNat by omega] at d1
        -- the reference's reading where what is within
        have read : v2.toInt < 2 + (sx 38 v1.toInt.toNat).toInt → r' = lm 12 (14 * v1.toInt.toNat + v2.toInt.toNat) ∧ sm' = sm ∧ lm' = lm := fun z => by
          rw [if_neg (fun y => by have := j_le.mp y; rw [ad, Int32.toInt_toInt64] at this; omega)] at f2
          have m4 := add_i (a := (14 : Int32) * v1) (b := v2) (by omega) (by omega)
          have m5 := cl_i (i := (14 : Int32) * v1 + v2) (by omega)
          obtain ⟨x7, e7, f3⟩ := p_lt f2
          replace f3 := p_gin f3
          rw [e7, show ((14 : Int32) * v1 + v2).toNatClampNeg = 14 * v1.toInt.toNat + v2.toInt.toNat by omega] at f3
          cases f3
          exact ⟨rfl, rfl, rfl⟩
        by_cases z0 : v2 = 0
        · rw [if_pos z0] at d1
          replace d1 := p_gin d1
          cases d1
          obtain ⟨q1, q2, q3⟩ := read (by rw [z0]; omega)
          refine ⟨Int64.toInt_inj.mp ?_, rfl, q2, q3⟩
          rw [q1, z0, k0, Int32.toInt_toInt64]
          exact g1
        · rw [if_neg z0] at d1
          by_cases z1 : v2 = (1 : Int32)
          · rw [if_pos z1] at d1
            replace d1 := p_gin d1
            cases d1
            obtain ⟨q1, q2, q3⟩ := read (by rw [z1]; omega)
            refine ⟨Int64.toInt_inj.mp ?_, rfl, q2, q3⟩
            rw [q1, z1, k1, Int32.toInt_toInt64]
            exact g2
          · rw [if_neg z1] at d1
            replace d1 := p_gin d1
            have v22 : 2 ≤ v2.toInt := by
              have a : ¬ v2.toInt = 0 := fun y => z0 (Int32.toInt_inj.mp (by omega))
              have b : ¬ v2.toInt = 1 := fun y => z1 (Int32.toInt_inj.mp (by omega))
              omega
            have hv2 := hi32 v2
            have sb := sub_c (a := v2) (b := (2 : Int32)) 2 (by decide) (by omega) (by omega)
            by_cases z2 : sx 38 v1.toInt.toNat ≤ v2 - (2 : Int32)
            · rw [if_pos z2] at d1
              replace z2 := i_le.mp z2
              cases d1
              rw [if_pos (j_le.mpr (by rw [ad, Int32.toInt_toInt64]; omega))] at f2
              cases f2
              exact ⟨rfl, rfl, rfl, rfl⟩
            · rw [if_neg z2] at d1
              replace z2 := i_nle.mp z2
              have n1 := mul_r (a := v1) (b := (12 : Int32)) 12 (by decide) (by omega) (by omega)
              have n2 := add_i (a := v1 * (12 : Int32)) (b := v2) (by omega) (by omega)
              have n3 := sub_c (a := v1 * (12 : Int32) + v2) (b := (2 : Int32)) 2 (by decide) (by omega) (by omega)
              have n4 := cl_i (i := v1 * (12 : Int32) + v2 - (2 : Int32)) (by omega)
              obtain ⟨x5, e5, d2⟩ := p_lt d1
              replace d2 := p_gin d2
              rw [e5, show (v1 * (12 : Int32) + v2 - (2 : Int32)).toNatClampNeg = 12 * v1.toInt.toNat + (v2.toInt.toNat - 2) by omega] at d2
              cases d2
              obtain ⟨q1, q2, q3⟩ := read (by omega)
              refine ⟨Int64.toInt_inj.mp ?_, rfl, q2, q3⟩
              rw [q1, Int32.toInt_toInt64, g4 (v2.toInt.toNat - 2) (by omega), show 14 * v1.toInt.toNat + 2 + (v2.toInt.toNat - 2) = 14 * v1.toInt.toNat + v2.toInt.toNat by omega]
    · rw [if_neg c2] at e1 e2
      cases e1
      cases e2
      exact ⟨rfl, rfl, rfl, rfl⟩
/-! count -/
section
variable {sx sm : Sg} {lm : Lg}
theorem rk_end {H : Nat} (h : ∀ x, H ≤ x → cnb sx x = false) : ∀ d, rk sx (H + d) = rk sx H
  | 0 => rfl
  | d + 1 => by
    have := rk_n (h (H + d) (by omega))
    rw [show H + (d + 1) = H + d + 1 by omega, this]
    exact rk_end h d
set_option maxHeartbeats 4000000 in
theorem m_count1 (hI : IC0 sx) (hF : FEq sx (sm 1)) (sv : SV (sm 1)) : Ok (fun q => q.2 = (sm, lm) ∧ q.1.toInt = (rk sx 12 : Int)) (LX12_count_53 ((0 : Int64), (0 : Int32), sm, lm)) := by
  have k0 : (0 : Int32).toInt = 0 := by decide
  have j0 : (0 : Int64).toInt = 0 := by decide
  have j1 : (1 : Int64).toInt = 1 := by decide
  have s12 := sv.2.1
  have s0 := sv.1
  unfold LX12_count_53
  refine ok_loop (I := fun (q : Int64 × Int32 × Sg × Lg) => 0 ≤ q.2.1.toInt ∧ q.2.1.toInt ≤ (sm 1 0).toInt ∧ q.2.2 = (sm, lm) ∧ q.1.toInt = (rk sx q.2.1.toInt.toNat : Int)) (m := fun (q : Int64 × Int32 × Sg × Lg) => (13 - q.2.1.toInt).toNat) _ ?_ ?_ _ ?_
  · intro q hq
    have := hq.1
    show (13 - q.2.1.toInt).toNat < 10000
    omega
  · intro rec q hq hrec
    obtain ⟨v2, v4, t, l⟩ := q
    replace hq : 0 ≤ v4.toInt ∧ v4.toInt ≤ (sm 1 0).toInt ∧ (t, l) = (sm, lm) ∧ v2.toInt = (rk sx v4.toInt.toNat : Int) := hq
    obtain ⟨b0, b1, e1, hs⟩ := hq
    obtain ⟨z1, z2⟩ := Prod.mk.inj e1
    rw [z1, z2]
    show Ok _ (fX12_count_53 rec v2 v4 sm lm)
    unfold fX12_count_53
    refine bnd3_of hens_is ?_
    have rl := rk_le sx v4.toInt.toNat
    refine ok_ite (fun c => ?_) (fun c => ?_)
    · replace c := i_le.mp c
      refine ok_some ⟨rfl, ?_⟩
      show v2.toInt = _
      rw [hs]
      have := rk_end (sx := sx) (H := v4.toInt.toNat) (fun x hx => by
        cases h : cnb sx x
        · rfl
        · have := (of_decide_eq_true h).1
          rw [hF.1] at c
          omega) (12 - v4.toInt.toNat)
      rw [show v4.toInt.toNat + (12 - v4.toInt.toNat) = 12 by omega] at this
      rw [this]
    · replace c := i_nle.mp c
      refine bnd3_of (cts_m hF sv rfl b0 (by omega)) ?_
      have go : ∀ w0 : Int64, 0 ≤ w0.toInt → w0.toInt ≤ 1 → w0.toInt + (rk sx v4.toInt.toNat : Int) = (rk sx (v4.toInt.toNat + 1) : Int) → Ok (fun q => q.2 = (sm, lm) ∧ q.1.toInt = (rk sx 12 : Int)) (fX12_count_77 rec v4 w0 v2 sm lm) := by
        intro w0 w1 w2 w3
        unfold fX12_count_77
        refine ok_lt (fun x1 g1 => ?_)
        have a := add64b (a := v2) (b := w0) (by omega) (by omega)
        rw [← g1] at a
        refine ok_lt (fun x e => ?_)
        replace e : x.toInt = v4.toInt + 1 := by rw [e]; exact add_c 1 (by decide) (by omega) (by omega)
        refine hrec (x1, x, sm, lm) ⟨by show 0 ≤ x.toInt; omega, by show x.toInt ≤ _; omega, rfl, ?_⟩ (show (13 - x.toInt).toNat < (13 - v4.toInt).toNat by omega)
        show x1.toInt = (rk sx x.toInt.toNat : Int)
        rw [show x.toInt.toNat = v4.toInt.toNat + 1 by omega]
        omega
      by_cases w : Ct sx v4.toInt.toNat
      · rw [if_pos w, ite1]
        refine go 1 (by omega) (by omega) ?_
        rw [rk_s w.2]; omega
      · rw [if_neg w, ite0]
        refine go 0 (by omega) (by omega) ?_
        have cf : cnb sx v4.toInt.toNat = false := by
          cases h : cnb sx v4.toInt.toNat
          · rfl
          · exact absurd ⟨by omega, h⟩ w
        rw [rk_n cf]; omega
  · refine ⟨by show 0 ≤ (0 : Int32).toInt; omega, by show (0 : Int32).toInt ≤ _; omega, rfl, ?_⟩
    show (0 : Int64).toInt = (rk sx (0 : Int32).toInt.toNat : Int)
    rw [k0, j0]
    rfl
/-- all pecks, by slots -/
noncomputable def rowS (A : Sg) (n i m : Nat) : Int := SF (fun _ => True) (fun j => (A 23 (12 * i + j)).toInt) m
noncomputable def allS (A : Sg) (n m : Nat) : Int := SF (fun _ => True) (fun i => rowS A n i n) m
set_option maxHeartbeats 4000000 in
theorem c_allPecks {A : Sg} {n : Nat} (hn : (A 3 2).toInt = (n : Int)) (n12 : n ≤ 12) : Ok (fun q => q.2 = A ∧ q.1 = Int64.ofInt (allS A n n)) (fX8_allPecks A) := by
  have k0 : (0 : Int32).toInt = 0 := by decide
  unfold fX8_allPecks LX8_allPecks_4
  refine ok_loop (I := fun (q : Int64 × Int32 × Sg) => 0 ≤ q.2.1.toInt ∧ q.2.1.toInt ≤ (n : Int) ∧ q.2.2 = A ∧ q.1 = Int64.ofInt (allS A n q.2.1.toInt.toNat)) (m := fun (q : Int64 × Int32 × Sg) => (13 - q.2.1.toInt).toNat) _ ?_ ?_ _ ?_
  · intro q hq
    have := hq.1
    show (13 - q.2.1.toInt).toNat < 10000
    omega
  · intro rec q hq hrec
    obtain ⟨v1, v3, t⟩ := q
    replace hq : 0 ≤ v3.toInt ∧ v3.toInt ≤ (n : Int) ∧ t = A ∧ v1 = Int64.ofInt (allS A n v3.toInt.toNat) := hq
    obtain ⟨b0, b1, e1, hs⟩ := hq
    rw [e1]
    show Ok _ (fX8_allPecks_4 rec v1 v3 A)
    unfold fX8_allPecks_4
    refine ok_ite (fun c => ?_) (fun c => ?_)
    · replace c := i_le.mp c
      rw [hn] at c
      refine ok_some ⟨rfl, ?_⟩
      rw [hs, show v3.toInt.toNat = n by omega]
    · replace c := i_nle.mp c
      rw [hn] at c
      have c3 := cl_i b0
      unfold LX8_allPecks_15
      refine ok_loop (I := fun (q : Int64 × Int32 × Int32 × Sg) => q.2.1 = v3 ∧ 0 ≤ q.2.2.1.toInt ∧ q.2.2.1.toInt ≤ (n : Int) ∧ q.2.2.2 = A ∧ q.1 = Int64.ofInt (allS A n v3.toInt.toNat + rowS A n v3.toInt.toNat q.2.2.1.toInt.toNat)) (m := fun (q : Int64 × Int32 × Int32 × Sg) => (13 - q.2.2.1.toInt).toNat) _ ?_ ?_ _ ?_
      · intro q hq
        have := hq.2.1
        show (13 - q.2.2.1.toInt).toNat < 10000
        omega
      · intro rec2 q hq hrec2
        obtain ⟨u1, q3, v4, t'⟩ := q
        replace hq : q3 = v3 ∧ 0 ≤ v4.toInt ∧ v4.toInt ≤ (n : Int) ∧ t' = A ∧ u1 = Int64.ofInt (allS A n v3.toInt.toNat + rowS A n v3.toInt.toNat v4.toInt.toNat) := hq
        obtain ⟨e2, d0, d1, e3, hu⟩ := hq
        rw [e2, e3]
        show Ok _ (fX8_allPecks_15 rec rec2 u1 v3 v4 A)
        unfold fX8_allPecks_15
        have c4 := cl_i d0
        refine ok_ite (fun d => ?_) (fun d => ?_)
        · replace d := i_le.mp d
          rw [hn] at d
          refine ok_lt (fun x e => ?_)
          replace e : x.toInt = v3.toInt + 1 := by rw [e]; exact add_c 1 (by decide) (by omega) (by omega)
          refine hrec (u1, x, A) ⟨by show 0 ≤ x.toInt; omega, by show x.toInt ≤ (n : Int); omega, rfl, ?_⟩ (show (13 - x.toInt).toNat < (13 - v3.toInt).toNat by omega)
          show u1 = Int64.ofInt (allS A n x.toInt.toNat)
          rw [show x.toInt.toNat = v3.toInt.toNat + 1 by omega, hu, show v4.toInt.toNat = n by omega]
          have : allS A n (v3.toInt.toNat + 1) = allS A n v3.toInt.toNat + rowS A n v3.toInt.toNat n := SF_p trivial
          rw [this]
        · replace d := i_nle.mp d
          rw [hn] at d
          refine bnd2_of (peckOf_c b0 (by omega) d0 (by omega)) ?_
          refine ok_lt (fun x6 g6 => ?_)
          refine ok_lt (fun x e => ?_)
          replace e : x.toInt = v4.toInt + 1 := by rw [e]; exact add_c 1 (by decide) (by omega) (by omega)
          refine hrec2 (x6, v3, x, A) ⟨rfl, by show 0 ≤ x.toInt; omega, by show x.toInt ≤ (n : Int); omega, rfl, ?_⟩ (show (13 - x.toInt).toNat < (13 - v4.toInt).toNat by omega)
          show x6 = Int64.ofInt (allS A n v3.toInt.toNat + rowS A n v3.toInt.toNat x.toInt.toNat)
          have : rowS A n v3.toInt.toNat (v4.toInt.toNat + 1) = rowS A n v3.toInt.toNat v4.toInt.toNat + (A 23 (12 * v3.toInt.toNat + v4.toInt.toNat)).toInt := SF_p trivial
          rw [show x.toInt.toNat = v4.toInt.toNat + 1 by omega, this, ← Int.add_assoc, Int64.ofInt_add (allS A n v3.toInt.toNat + rowS A n v3.toInt.toNat v4.toInt.toNat), ofI_32, g6, hu, show v3.toNatClampNeg = v3.toInt.toNat by omega, show v4.toNatClampNeg = v4.toInt.toNat by omega]
      · refine ⟨rfl, by show 0 ≤ (0 : Int32).toInt; omega, by show (0 : Int32).toInt ≤ (n : Int); omega, rfl, ?_⟩
        show v1 = Int64.ofInt (allS A n v3.toInt.toNat + rowS A n v3.toInt.toNat (0 : Int32).toInt.toNat)
        rw [k0, hs]
        show Int64.ofInt (allS A n v3.toInt.toNat) = Int64.ofInt (allS A n v3.toInt.toNat + 0)
        rw [Int.add_zero]
  · refine ⟨by show 0 ≤ (0 : Int32).toInt; omega, by show (0 : Int32).toInt ≤ (n : Int); omega, rfl, ?_⟩
    show (0 : Int64) = Int64.ofInt (allS A n (0 : Int32).toInt.toNat)
    rw [k0]
    show (0 : Int64) = Int64.ofInt 0
    decide
/-- all pecks, by hens -/
noncomputable def rowH (sx : Sg) (a m : Nat) : Int := SF (Ct sx) (fun b => (sx 15 (12 * a + b)).toInt) m
noncomputable def allH (sx : Sg) (m : Nat) : Int := SF (Ct sx) (fun a => rowH sx a 12) m
set_option maxHeartbeats 4000000 in
theorem m_count5 (hI : IC0 sx) (hF : FEq sx (sm 1)) (sv : SV (sm 1)) : Ok (fun q => q.2 = (sm, lm) ∧ q.1 = Int64.ofInt (allH sx 12)) (LX12_count_108 ((0 : Int64), (0 : Int32), sm, lm)) := by
  have k0 : (0 : Int32).toInt = 0 := by decide
  have k144 : (144 : Int32).toInt = 144 := by decide
  -- the sum of the first x
  have PX : ∃ PX : Nat → Int, PX 0 = 0 ∧ PX 144 = allH sx 12 ∧ (∀ x, x < 144 → (¬ (Ct sx (x / 12) ∧ Ct sx (x % 12)) → PX (x + 1) = PX x) ∧ (Ct sx (x / 12) ∧ Ct sx (x % 12) → PX (x + 1) = PX x + (sx 15 x).toInt)) := by
    refine ⟨fun x => allH sx (x / 12) + TT (Ct sx) (fun a => rowH sx a (x % 12)) (x / 12), ?_, ?_, fun x hx => ?_⟩
    · show allH sx (0 / 12) + TT (Ct sx) (fun a => rowH sx a (0 % 12)) (0 / 12) = 0
      have : TT (Ct sx) (fun a => rowH sx a (0 % 12)) (0 / 12) = 0 := by
        by_cases c : Ct sx (0 / 12)
        · rw [TT_p c]; rfl
        · rw [TT_n c]
      rw [this]; rfl
    · show allH sx (144 / 12) + TT (Ct sx) (fun a => rowH sx a (144 % 12)) (144 / 12) = allH sx 12
      have : TT (Ct sx) (fun a => rowH sx a (144 % 12)) (144 / 12) = 0 := by
        by_cases c : Ct sx (144 / 12)
        · rw [TT_p c]; rfl
        · rw [TT_n c]
      rw [this, Int.add_zero]
    · show (_ → allH sx ((x + 1) / 12) + TT (Ct sx) (fun a => rowH sx a ((x + 1) % 12)) ((x + 1) / 12) = allH sx (x / 12) + TT (Ct sx) (fun a => rowH sx a (x % 12)) (x / 12)) ∧ (_ → allH sx ((x + 1) / 12) + TT (Ct sx) (fun a => rowH sx a ((x + 1) % 12)) ((x + 1) / 12) = allH sx (x / 12) + TT (Ct sx) (fun a => rowH sx a (x % 12)) (x / 12) + (sx 15 x).toInt)
      -- a row that is one longer
      have longer : allH sx ((x + 1) / 12) + TT (Ct sx) (fun a => rowH sx a ((x + 1) % 12)) ((x + 1) / 12) = allH sx (x / 12) + TT (Ct sx) (fun a => rowH sx a (x % 12 + 1)) (x / 12) := by
        by_cases c : x % 12 = 11
        · have e1 : (x + 1) / 12 = x / 12 + 1 := by omega
          have e2 : (x + 1) % 12 = 0 := by omega
          rw [e1, e2, c]
          have z : TT (Ct sx) (fun a => rowH sx a 0) (x / 12 + 1) = 0 := by
            by_cases d : Ct sx (x / 12 + 1)
            · rw [TT_p d]; rfl
            · rw [TT_n d]
          have s : allH sx (x / 12 + 1) = allH sx (x / 12) + TT (Ct sx) (fun a => rowH sx a 12) (x / 12) := rfl
          rw [z, s, Int.add_zero]
        · have e1 : (x + 1) / 12 = x / 12 := by omega
          have e2 : (x + 1) % 12 = x % 12 + 1 := by omega
          rw [e1, e2]
      rw [longer]
      by_cases c : Ct sx (x / 12)
      · rw [TT_p (w := fun a => rowH sx a (x % 12 + 1)) c, TT_p (w := fun a => rowH sx a (x % 12)) c]
        refine ⟨fun z => ?_, fun z => ?_⟩
        · have : rowH sx (x / 12) (x % 12 + 1) = rowH sx (x / 12) (x % 12) := SF_n (fun y => z ⟨c, y⟩)
          rw [this]
        · have : rowH sx (x / 12) (x % 12 + 1) = rowH sx (x / 12) (x % 12) + (sx 15 (12 * (x / 12) + x % 12)).toInt := SF_p z.2
          rw [this, show 12 * (x / 12) + x % 12 = x by omega, Int.add_assoc]
      · rw [TT_n (w := fun a => rowH sx a (x % 12 + 1)) c, TT_n (w := fun a => rowH sx a (x % 12)) c]
        exact ⟨fun _ => rfl, fun z => absurd z.1 c⟩
  obtain ⟨PX, p0, p144, ps⟩ := PX
  unfold LX12_count_108
  refine ok_loop (I := fun (q : Int64 × Int32 × Sg × Lg) => 0 ≤ q.2.1.toInt ∧ q.2.1.toInt ≤ 144 ∧ q.2.2 = (sm, lm) ∧ q.1 = Int64.ofInt (PX q.2.1.toInt.toNat)) (m := fun (q : Int64 × Int32 × Sg × Lg) => (145 - q.2.1.toInt).toNat) _ ?_ ?_ _ ?_
  · intro q hq
    have := hq.1
    show (145 - q.2.1.toInt).toNat < 10000
    omega
  · intro rec q hq hrec
    obtain ⟨v2, v4, t, l⟩ := q
    replace hq : 0 ≤ v4.toInt ∧ v4.toInt ≤ 144 ∧ (t, l) = (sm, lm) ∧ v2 = Int64.ofInt (PX v4.toInt.toNat) := hq
    obtain ⟨b0, b1, e1, hs⟩ := hq
    obtain ⟨z1, z2⟩ := Prod.mk.inj e1
    rw [z1, z2]
    show Ok _ (fX12_count_108 rec v2 v4 sm lm)
    unfold fX12_count_108
    refine ok_ite (fun c => ?_) (fun c => ?_)
    · replace c := i_le.mp c
      refine ok_some ⟨rfl, ?_⟩
      rw [hs, show v4.toInt.toNat = 144 by omega, p144]
    · replace c := i_nle.mp c
      rw [k144] at c
      have dv := div_i (a := v4) (b := (12 : Int32)) 12 (by decide) (by decide) b0
      have mr := mul_r (a := v4 / (12 : Int32)) (b := (12 : Int32)) 12 (by decide) (by omega) (by omega)
      have md := sub_i (a := v4) (b := v4 / (12 : Int32) * (12 : Int32)) (by omega) (by omega)
      have st := ps v4.toInt.toNat (by omega)
      have ed : (v4 / (12 : Int32)).toInt.toNat = v4.toInt.toNat / 12 := by omega
      have em : (v4 - v4 / (12 : Int32) * (12 : Int32)).toInt.toNat = v4.toInt.toNat % 12 := by omega
      have go : ∀ w0 : Int64, Int64.ofInt (PX v4.toInt.toNat) + w0 = Int64.ofInt (PX (v4.toInt.toNat + 1)) → Ok (fun q => q.2 = (sm, lm) ∧ q.1 = Int64.ofInt (allH sx 12)) (fX12_count_160 rec v4 w0 v2 sm lm) := by
        intro w0 hw
        unfold fX12_count_160
        refine ok_lt (fun x1 g1 => ?_)
        refine ok_lt (fun x e => ?_)
        replace e : x.toInt = v4.toInt + 1 := by rw [e]; exact add_c 1 (by decide) (by omega) (by omega)
        refine hrec (x1, x, sm, lm) ⟨by show 0 ≤ x.toInt; omega, by show x.toInt ≤ 144; omega, rfl, ?_⟩ (show (145 - x.toInt).toNat < (145 - v4.toInt).toNat by omega)
        show x1 = Int64.ofInt (PX x.toInt.toNat)
        rw [show x.toInt.toNat = v4.toInt.toNat + 1 by omega, g1, hs]
        exact hw
      have no : ¬ (Ct sx (v4.toInt.toNat / 12) ∧ Ct sx (v4.toInt.toNat % 12)) → Ok (fun q => q.2 = (sm, lm) ∧ q.1 = Int64.ofInt (allH sx 12)) (fX12_count_159 rec v4 v2 sm lm) := fun z => by
        unfold fX12_count_159
        refine go 0 ?_
        rw [st.1 z]
        exact Int64.add_zero _
      refine bnd3_of (cts_m hF sv rfl (by omega) (by omega)) ?_
      rw [ed]
      by_cases w1 : Ct sx (v4.toInt.toNat / 12)
      · rw [if_pos w1, ite1]
        refine bnd3_of (cts_m hF sv rfl (by omega) (by omega)) ?_
        rw [em]
        by_cases w2 : Ct sx (v4.toInt.toNat % 12)
        · rw [if_pos w2, ite1]
          refine bnd3_of (peckOf_is (by omega) (by omega) (by omega) (by omega)) ?_
          have c1 := cl_i (i := v4 / (12 : Int32)) (by omega)
          have c2 := cl_i (i := v4 - v4 / (12 : Int32) * (12 : Int32)) (by omega)
          have lt := (of_decide_eq_true w1.2).1
          have row := (hF.2 (v4.toInt.toNat / 12) lt).2.2.2.2 (v4.toInt.toNat % 12) (by omega)
          rw [show (v4 / (12 : Int32)).toNatClampNeg = v4.toInt.toNat / 12 by omega, show (v4 - v4 / (12 : Int32) * (12 : Int32)).toNatClampNeg = v4.toInt.toNat % 12 by omega, row, show 12 * (v4.toInt.toNat / 12) + v4.toInt.toNat % 12 = v4.toInt.toNat by omega]
          refine go _ ?_
          rw [st.2 ⟨w1, w2⟩, Int64.ofInt_add, ofI_32]
        · rw [if_neg w2, ite0]
          exact no (fun z => w2 z.2)
      · rw [if_neg w1, ite0]
        exact no (fun z => w1 z.1)
  · refine ⟨by show 0 ≤ (0 : Int32).toInt; omega, by show (0 : Int32).toInt ≤ 144; omega, rfl, ?_⟩
    show (0 : Int64) = Int64.ofInt (PX (0 : Int32).toInt.toNat)
    rw [k0]
    show (0 : Int64) = Int64.ofInt (PX 0)
    rw [p0]
    decide
end
