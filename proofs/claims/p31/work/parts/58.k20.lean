/-! settle -/
def Ct (A : Sg) (h : Nat) : Prop := h < 12 ∧ cnb A h = true
def EH (A : Sg) (a b : Nat) : Prop := a = b ∨ (Ct A a ∧ Ct A b ∧ 0 < (A 15 (12 * a + b)).toInt)
def RcH (A : Sg) (a b : Nat) : Prop := WA (EH A) 12 a b
theorem rc_rf {A : Sg} (h : Nat) : RcH A h h := WA_rf (Or.inl rfl) 12
theorem rc_tr {A : Sg} (a b c : Nat) (h : Ct A b) (h1 : RcH A a b) (h2 : RcH A b c) : RcH A a c := WA_tr 12 b a c h.1 h1 h2
theorem rs_rh {A : Sg} {a b : Nat} (hM : MC A) (ha : Ct A a) (hb : Ct A b) : WA (ES A) (rk A 12) (rk A a) (rk A b) ↔ RcH A a b := by
  refine WA_rk (s := A) (Eh := EH A) (Es := ES A) (fun x y z => ?_) (fun x y hx hy cx cy => ?_) 12 (Nat.le_refl _) a b ha.1 hb.1 ha.2 hb.2
  · rcases z with z | ⟨z1, z2, -⟩
    · exact Or.inl z
    · exact Or.inr ⟨z1.2, z2.2⟩
  · have r12 := rk_le A 12
    have lx := rk_lt cx hx
    have ly := rk_lt cy hy
    have ox := ofn_n hx
    have oy := ofn_n hy
    have c1 := cl_i (i := Int32.ofNat x) (by omega)
    have c2 := cl_i (i := Int32.ofNat y) (by omega)
    unfold ES EH
    rw [hM.2.2.2.1 _ _ lx ly, (hM.2.1 _ hx cx).1, (hM.2.1 _ hy cy).1, show (Int32.ofNat x).toNatClampNeg = x by omega, show (Int32.ofNat y).toNatClampNeg = y by omega]
    constructor
    · rintro (z | z)
      · exact Or.inl (rk_inj cx cy z)
      · exact Or.inr ⟨⟨hx, cx⟩, ⟨hy, cy⟩, z⟩
    · rintro (z | ⟨-, -, z⟩)
      · exact Or.inl (by rw [z])
      · exact Or.inr z
/-- only the groups have changed -/
def T7 (B t : Sg) : Prop := (∀ c, c ≠ 7 → c ≠ 35 → t c = B c) ∧ ∀ j, j ≠ 2 → t 7 j = B 7 j
set_option maxHeartbeats 4000000 in
theorem st_76 {B t0 : Sg} {v1 v2 M : Int32} {n : Nat} {P : Sg → Prop} {r52 : (Int32 × Int32 × Sg) → Option Sg} (hn : (B 3 2).toInt = (n : Int)) (n12 : n ≤ 12) (h0 : T7 B t0) (m0 : 0 ≤ M.toInt) (s0 : 0 ≤ (t0 7 2).toInt) (s1 : (t0 7 2).toInt ≤ 12) (b0 : 0 ≤ v2.toInt) (b1 : v2.toInt ≤ 12)
    (hr : ∀ (x : Int32) (t : Sg), x.toInt = v2.toInt + 1 → T7 B t → (t 7 2).toInt = (t0 7 2).toInt + 1 → (∀ j, j < n → (M.toInt.toNat.testBit j = true → t 35 j = t0 7 2) ∧ (M.toInt.toNat.testBit j = false → t 35 j = t0 35 j)) → Ok P (r52 (v1 &&& (M ^^^ (-1 : Int32)), x, t))) : Ok P (LX3_settle_76 r52 (v1, v2, M, (0 : Int32), t0)) := by
  have k0 : (0 : Int32).toInt = 0 := by decide
  unfold LX3_settle_76
  refine ok_loop (I := fun (q : Int32 × Int32 × Int32 × Int32 × Sg) => q.1 = v1 ∧ q.2.1 = v2 ∧ q.2.2.1 = M ∧ 0 ≤ q.2.2.2.1.toInt ∧ q.2.2.2.1.toInt ≤ (n : Int) ∧ T7 B q.2.2.2.2 ∧ q.2.2.2.2 7 2 = t0 7 2 ∧ ∀ j : Nat, ((j : Int) < q.2.2.2.1.toInt → M.toInt.toNat.testBit j = true → q.2.2.2.2 35 j = t0 7 2) ∧ ((q.2.2.2.1.toInt ≤ (j : Int) ∨ M.toInt.toNat.testBit j = false) → q.2.2.2.2 35 j = t0 35 j)) (m := fun (q : Int32 × Int32 × Int32 × Int32 × Sg) => (13 - q.2.2.2.1.toInt).toNat) _ ?_ ?_ _ ?_
  · intro q hq
    have := hq.2.2.2.1
    show (13 - q.2.2.2.1.toInt).toNat < 10000
    omega
  · intro rec q hq hrec
    obtain ⟨q1, q2, q3, v4, t⟩ := q
    replace hq : q1 = v1 ∧ q2 = v2 ∧ q3 = M ∧ 0 ≤ v4.toInt ∧ v4.toInt ≤ (n : Int) ∧ T7 B t ∧ t 7 2 = t0 7 2 ∧ ∀ j : Nat, ((j : Int) < v4.toInt → M.toInt.toNat.testBit j = true → t 35 j = t0 7 2) ∧ ((v4.toInt ≤ (j : Int) ∨ M.toInt.toNat.testBit j = false) → t 35 j = t0 35 j) := hq
    obtain ⟨e1, e2, e3, c0, c1, ht, e7, hb⟩ := hq
    rw [e1, e2, e3]
    show Ok P (fX3_settle_76 r52 rec v1 v2 M v4 t)
    unfold fX3_settle_76
    rw [ht.1 3 (by decide) (by decide)]
    have hc4 := cl_i c0
    have go : ∀ t' : Sg, v4.toInt < (n : Int) → T7 B t' → t' 7 2 = t0 7 2 → (∀ j, j ≠ v4.toInt.toNat → t' 35 j = t 35 j) → (M.toInt.toNat.testBit v4.toInt.toNat = true → t' 35 v4.toInt.toNat = t0 7 2) → (M.toInt.toNat.testBit v4.toInt.toNat = false → t' 35 v4.toInt.toNat = t0 35 v4.toInt.toNat) → Ok P (fX3_settle_108 r52 rec v1 v2 M v4 t') := by
      intro t' g0 g1 g2 g3 g4 g5
      unfold fX3_settle_108
      refine ok_lt (fun x e => ?_)
      replace e : x.toInt = v4.toInt + 1 := by rw [e]; exact add_c 1 (by decide) (by omega) (by omega)
      refine hrec (v1, v2, M, x, t') ⟨rfl, rfl, rfl, by show 0 ≤ x.toInt; omega, by show x.toInt ≤ (n : Int); omega, g1, g2, fun j => ?_⟩ (show (13 - x.toInt).toNat < (13 - v4.toInt).toNat by omega)
      show ((j : Int) < x.toInt → _ → t' 35 j = t0 7 2) ∧ ((x.toInt ≤ (j : Int) ∨ _) → t' 35 j = t0 35 j)
      by_cases w : j = v4.toInt.toNat
      · refine ⟨fun _ z => by rw [w] at z ⊢; exact g4 z, fun z => ?_⟩
        rcases z with z | z
        · omega
        · rw [w] at z ⊢; exact g5 z
      · rw [g3 j w]
        refine ⟨fun z => (hb j).1 (by omega), fun z => (hb j).2 ?_⟩
        rcases z with z | z
        · exact Or.inl (by omega)
        · exact Or.inr z
    refine ok_ite (fun c => ?_) (fun c => ?_)
    · replace c := i_le.mp c
      rw [hn] at c
      refine ok_lt (fun x2 f2 => ?_)
      refine ok_lt (fun x3 f3 => ?_)
      rw [e7] at f3
      have e3' : x3.toInt = (t0 7 2).toInt + 1 := by rw [f3]; exact add_c 1 (by decide) (by omega) (by omega)
      refine ok_lt (fun s4 f4 => ?_)
      refine ok_lt (fun x5 f5 => ?_)
      replace f5 : x5.toInt = v2.toInt + 1 := by rw [f5]; exact add_c 1 (by decide) (by omega) (by omega)
      rw [f2]
      refine hr x5 s4 f5 ⟨fun c h1 h2 => ?_, fun j hj => ?_⟩ (by rw [f4, up2_e]; exact e3') (fun j hj => ?_)
      · rw [f4, up2_n h1]; exact ht.1 c h1 h2
      · rw [f4, up2_o (Or.inr hj)]; exact ht.2 j hj
      · rw [f4, up2_n (by decide)]
        exact ⟨(hb j).1 (by omega), fun z => (hb j).2 (Or.inr z)⟩
    · replace c := i_nle.mp c
      rw [hn] at c
      refine bnd2_of isIn_is ?_
      have bi := bit_n (a := M) (v := v4) m0 c0 (by omega)
      by_cases f : ((M >>> (v4 &&& 31)) &&& (1 : Int32)) = (1 : Int32)
      · rw [if_pos f, ite1]
        have mf := bi.mp f
        refine ok_lt (fun x11 f11 => ?_)
        refine ok_gin (by omega) (by omega) ?_
        refine ok_lt (fun s13 f13 => ?_)
        rw [show v4.toNatClampNeg = v4.toInt.toNat by omega, f11, e7] at f13
        refine go s13 c ⟨fun c h1 h2 => by rw [f13, up2_n h2]; exact ht.1 c h1 h2, fun j hj => by rw [f13, up2_n (by decide)]; exact ht.2 j hj⟩ (by rw [f13, up2_n (by decide)]; exact e7) (fun j hj => by rw [f13, up2_o (Or.inr hj)]) (fun _ => by rw [f13, up2_e]) (fun z => by rw [mf] at z; cases z)
      · rw [if_neg f, ite0]
        have mf : M.toInt.toNat.testBit v4.toInt.toNat = false := by
          cases hh : M.toInt.toNat.testBit v4.toInt.toNat
          · rfl
          · exact absurd (bi.mpr hh) f
        exact go t c ht e7 (fun _ _ => rfl) (fun z => by rw [mf] at z; cases z) (fun _ => (hb _).2 (Or.inr mf))
  · refine ⟨rfl, rfl, rfl, by show 0 ≤ (0 : Int32).toInt; omega, by show (0 : Int32).toInt ≤ (n : Int); omega, h0, rfl, fun j => ⟨fun z => ?_, fun _ => rfl⟩⟩
    replace z : (j : Int) < (0 : Int32).toInt := z
    omega
theorem cnp_rk {A : Sg} {p : Nat → Prop} (h : ∀ j, p j → cnb A j = true) : ∀ m, cnp p m ≤ rk A m
  | 0 => Nat.zero_le _
  | m + 1 => by
    have ih := cnp_rk h m
    show cnp p m + @ite _ (p m) (Classical.propDecidable _) 1 0 ≤ rk A (m + 1)
    by_cases c : p m
    · rw [if_pos c, rk_s (h m c)]; omega
    · rw [if_neg c]
      have := rk_mono (sg := A) (show m ≤ m + 1 by omega)
      omega
/-- the groups are right -/
def GVd (sx : Sg) : Prop := ∃ n g, GFin (Ct sx) (RcH sx) n g ∧ (sx 7 2).toInt = (n : Int) ∧ ∀ h, Ct sx h → (sx 35 (rk sx h)).toInt = g h
set_option maxHeartbeats 4000000 in
theorem st_52 {A B : Sg} {n : Nat} {v1 : Int32} (hI : IC0 A) (hM : MC A) (hn : n = rk A 12) (e3 : B 3 = A 3) (r36 : ∀ j, 0 ≤ (B 36 j).toInt ∧ (B 36 j).toInt ≤ 4095) (rb : ∀ a b, a < n → b < n → (RB B a b ↔ WA (ES A) n a b)) (b72 : B 7 2 = 0) (l0 : 0 ≤ v1.toInt) (l1 : v1.toInt.toNat = 2 ^ n - 1) : Ok (fun t => T7 B t ∧ ∃ k g, GFin (Ct A) (RcH A) k g ∧ (t 7 2).toInt = (k : Int) ∧ ∀ h, Ct A h → (t 35 (rk A h)).toInt = g h) (LX3_settle_52 (v1, (0 : Int32), B)) := by
  have k0 : (0 : Int32).toInt = 0 := by decide
  have n12 : n ≤ 12 := by have := rk_le A 12; omega
  have hn3 : (B 3 2).toInt = (n : Int) := by rw [e3, hM.1, hn]
  have rs : ∀ {a b : Nat}, Ct A a → Ct A b → (RB B (rk A a) (rk A b) ↔ RcH A a b) := fun {a b} ha hb => by
    have la := rk_lt ha.2 ha.1
    have lb := rk_lt hb.2 hb.1
    rw [rb _ _ (by omega) (by omega), hn]
    exact rs_rh hM ha hb
  have c12 : ∀ h, Ct A h → h < 12 := fun h z => z.1
  unfold LX3_settle_52
  refine ok_loop (I := fun (q : Int32 × Int32 × Sg) => 0 ≤ q.1.toInt ∧ q.1.toInt ≤ 4095 ∧ 0 ≤ q.2.1.toInt ∧ q.2.1.toInt ≤ (n : Int) ∧ T7 B q.2.2 ∧ (q.2.2 7 2).toInt = q.2.1.toInt ∧ (∀ j, q.1.toInt.toNat.testBit j = true → j < n) ∧ ∃ g, GSt (Ct A) (RcH A) q.2.1.toInt.toNat g ∧ (∀ h, Ct A h → (q.1.toInt.toNat.testBit (rk A h) = true ↔ g h < 0)) ∧ (∀ h, Ct A h → 0 ≤ g h → (q.2.2 35 (rk A h)).toInt = g h) ∧ cnp (fun h => Ct A h ∧ g h < 0) 12 + q.2.1.toInt.toNat ≤ n) (m := fun (q : Int32 × Int32 × Sg) => (13 - q.2.1.toInt).toNat) _ ?_ ?_ _ ?_
  · intro q hq
    have := hq.2.2.1
    show (13 - q.2.1.toInt).toNat < 10000
    omega
  · intro rec q hq hrec
    obtain ⟨L, v2, t⟩ := q
    replace hq : 0 ≤ L.toInt ∧ L.toInt ≤ 4095 ∧ 0 ≤ v2.toInt ∧ v2.toInt ≤ (n : Int) ∧ T7 B t ∧ (t 7 2).toInt = v2.toInt ∧ (∀ j, L.toInt.toNat.testBit j = true → j < n) ∧ ∃ g, GSt (Ct A) (RcH A) v2.toInt.toNat g ∧ (∀ h, Ct A h → (L.toInt.toNat.testBit (rk A h) = true ↔ g h < 0)) ∧ (∀ h, Ct A h → 0 ≤ g h → (t 35 (rk A h)).toInt = g h) ∧ cnp (fun h => Ct A h ∧ g h < 0) 12 + v2.toInt.toNat ≤ n := hq
    obtain ⟨p0, p1, b0, b1, ht, e7, hL, g, gs, gl, gg, gc⟩ := hq
    have one := GSt_one (C := Ct A) (R := RcH A) rc_tr _ g gs
    show Ok _ (fX3_settle_52 rec L v2 t)
    unfold fX3_settle_52
    rw [ht.1 3 (by decide) (by decide)]
    have fin : (∀ h, Ct A h → 0 ≤ g h) → Ok (fun t => T7 B t ∧ ∃ k g, GFin (Ct A) (RcH A) k g ∧ (t 7 2).toInt = (k : Int) ∧ ∀ h, Ct A h → (t 35 (rk A h)).toInt = g h) (some t) := by
      intro hz
      refine ok_some ⟨ht, v2.toInt.toNat, g, ⟨gs, fun h nx => ?_⟩, by omega, fun h hc => gg h hc (hz h hc)⟩
      have := hz h nx.1
      have := nx.2.1
      omega
    refine ok_ite (fun c => ?_) (fun c => ?_)
    · replace c := i_le.mp c
      rw [hn3] at c
      have z := cnp_0 (p := fun h => Ct A h ∧ g h < 0) 12 (by omega)
      exact fin (fun h hc => Int.not_lt.mp (fun y => z h hc.1 ⟨hc, y⟩))
    · replace c := i_nle.mp c
      rw [hn3] at c
      refine ok_ite (fun d => ?_) (fun d => ?_)
      · have z := (zero_tb p0).mp d
        exact fin (fun h hc => Int.not_lt.mp (fun y => by have := (gl h hc).mpr y; rw [z] at this; cases this))
      · -- one that may come next is there
        have ex : ∃ j, L.toInt.toNat.testBit j = true := Classical.byContradiction fun z => d ((zero_tb p0).mpr (fun j => by
          cases hh : L.toInt.toNat.testBit j
          · rfl
          · exact absurd ⟨j, hh⟩ z))
        obtain ⟨j, hj⟩ := ex
        have jn := hL j hj
        obtain ⟨h1, h1a, h1b, h1c⟩ := rk_onto (sg := A) 12 j (by omega)
        have ch1 : Ct A h1 := ⟨h1a, h1b⟩
        obtain ⟨h2, nx2⟩ := nx_ex (C := Ct A) (R := RcH A) (g := g) c12 rc_rf rc_tr _ h1 (Nat.le_refl _) ch1 ((gl h1 ch1).mp (by rw [h1c]; exact hj))
        obtain ⟨h0, pk⟩ := Pk_of h2 nx2
        have ch0 := pk.1.1
        have tR : ∀ a b, RB t a b ↔ RB B a b := fun a b => by unfold RB; rw [ht.1 36 (by decide) (by decide)]
        -- by slots and by hens
        have nxs : ∀ h, Ct A h → (NxS t n L.toInt.toNat (rk A h) ↔ Nx (Ct A) (RcH A) g h) := by
          intro h hc
          constructor
          · rintro ⟨y1, y2⟩
            refine ⟨hc, (gl h hc).mp y1, fun o co go ro => ?_⟩
            have lo := rk_lt co.2 co.1
            have := y2 (rk A o) (by omega) ((gl o co).mpr go) ((tR _ _).mpr ((rs co hc).mpr ro))
            exact (rs hc co).mp ((tR _ _).mp this)
          · rintro ⟨-, y1, y2⟩
            refine ⟨(gl h hc).mpr y1, fun o on lo ro => ?_⟩
            obtain ⟨o', oa, ob, oc⟩ := rk_onto (sg := A) 12 o (by omega)
            have co : Ct A o' := ⟨oa, ob⟩
            rw [← oc] at lo ro ⊢
            exact (tR _ _).mpr ((rs hc co).mpr (y2 o' co ((gl o' co).mp lo) ((rs co hc).mp ((tR _ _).mp ro))))
        refine ok_bnd2 (c_next (t := t) (v1 := L) (n := n) (by rw [ht.1 3 (by decide) (by decide)]; exact hn3) n12 (fun j => by rw [ht.1 36 (by decide) (by decide)]; exact r36 j) p0 p1) (fun M s4 h4 => ?_)
        obtain ⟨g1, g2, g3, g4⟩ := h4
        replace g1 : s4 = t := g1
        replace g2 : 0 ≤ M.toInt := g2
        replace g3 : M.toInt ≤ 4095 := g3
        rw [g1]
        have r0 := rk_lt ch0.2 ch0.1
        rcases g4 with ⟨v, w1, w2, w3, w4⟩ | z
        · replace w4 : ∀ j, M.toInt.toNat.testBit j = true ↔ (j < n ∧ RB t j v ∧ L.toInt.toNat.testBit j = true) := w4
          obtain ⟨hv, va, vb, vc⟩ := rk_onto (sg := A) 12 v (by omega)
          have cv : Ct A hv := ⟨va, vb⟩
          rw [← vc] at w2
          have nv := (nxs hv cv).mp w2
          have ev : hv = h0 := by
            rcases Nat.lt_trichotomy hv h0 with y | y | y
            · exact absurd nv (pk.2 hv y)
            · exact y
            · have := w3 (rk A h0) (by
                rw [← vc]
                have := rk_mono (sg := A) (show h0 + 1 ≤ hv by omega)
                rw [rk_s ch0.2] at this
                omega)
              exact absurd ((nxs h0 ch0).mpr pk.1) this
          subst ev
          -- who is in it
          have mem : ∀ o, Ct A o → (M.toInt.toNat.testBit (rk A o) = true ↔ (RcH A o hv ∧ RcH A hv o)) := by
            intro o co
            have lo := rk_lt co.2 co.1
            rw [w4, ← vc, tR, rs co cv, gl o co]
            constructor
            · rintro ⟨-, y1, y2⟩
              exact ⟨y1, nv.2.2 o co y2 y1⟩
            · rintro ⟨y1, y2⟩
              refine ⟨by omega, y1, Int.not_le.mp (fun y => ?_)⟩
              have := one.2 o hv co cv y y1 y2
              have := nv.2.1
              omega
          refine st_76 (B := B) hn3 n12 ht g2 (by omega) (by omega) b0 (by omega) (fun x t' ex ht' e7' h35 => ?_)
          have cp := tb_cpl (y := L) (v := M) p0 g2
          have al := and_l (a := L) (b := M ^^^ (-1 : Int32)) p0
          have sub : ∀ j, (L &&& (M ^^^ (-1 : Int32))).toInt.toNat.testBit j = true ↔ (L.toInt.toNat.testBit j = true ∧ M.toInt.toNat.testBit j = false) := fun j => by
            rw [cp j, Bool.and_eq_true, Bool.not_eq_true']
          have gneg : ∀ o, Ct A o → ((L &&& (M ^^^ (-1 : Int32))).toInt.toNat.testBit (rk A o) = true ↔ gup (Ct A) (RcH A) g hv v2.toInt.toNat o < 0) := by
            intro o co
            rw [sub, gl o co]
            by_cases y : RcH A o hv ∧ RcH A hv o
            · rw [gup_p ⟨co, y⟩]
              have := (mem o co).mpr y
              rw [this]
              constructor
              · rintro ⟨-, y⟩; cases y
              · intro y; omega
            · rw [gup_n (fun z => y z.2)]
              have : M.toInt.toNat.testBit (rk A o) = false := by
                cases hh : M.toInt.toNat.testBit (rk A o)
                · rfl
                · exact absurd ((mem o co).mp hh) y
              rw [this]
              exact ⟨fun y => y.1, fun y => ⟨y, rfl⟩⟩
          refine hrec (L &&& (M ^^^ (-1 : Int32)), x, t') ⟨al.1, by show (L &&& (M ^^^ (-1 : Int32))).toInt ≤ 4095; omega, by show 0 ≤ x.toInt; omega, by show x.toInt ≤ (n : Int); omega, ht', by show (t' 7 2).toInt = x.toInt; omega, fun j hj => hL j ((sub j).mp hj).1, gup (Ct A) (RcH A) g hv v2.toInt.toNat, ?_, gneg, fun o co y => ?_, ?_⟩ (show (13 - x.toInt).toNat < (13 - v2.toInt).toNat by omega)
          · show GSt (Ct A) (RcH A) x.toInt.toNat _
            rw [show x.toInt.toNat = v2.toInt.toNat + 1 by omega]
            exact ⟨g, hv, gs, pk, rfl⟩
          · show (t' 35 (rk A o)).toInt = _
            have lo := rk_lt co.2 co.1
            have h' := h35 (rk A o) (by omega)
            by_cases yy : RcH A o hv ∧ RcH A hv o
            · rw [gup_p ⟨co, yy⟩, h'.1 ((mem o co).mpr yy)]
              omega
            · rw [gup_n (fun z => yy z.2)] at y ⊢
              rw [h'.2 (by
                cases hh : M.toInt.toNat.testBit (rk A o)
                · rfl
                · exact absurd ((mem o co).mp hh) yy)]
              exact gg o co y
          · show cnp _ 12 + x.toInt.toNat ≤ n
            have lt := cnp_lt (p := fun h => Ct A h ∧ gup (Ct A) (RcH A) g hv v2.toInt.toNat h < 0) (q := fun h => Ct A h ∧ g h < 0) (i := hv) (fun z => by
              have y := z.2
              rw [gup_p ⟨cv, rc_rf hv, rc_rf hv⟩] at y
              omega) ⟨cv, nv.2.1⟩ 12 cv.1 (fun j _ z => ⟨z.1, (gl j z.1).mp ((sub _).mp ((gneg j z.1).mpr z.2)).1⟩)
            omega
        · exact absurd ((nxs h0 ch0).mpr pk.1) (z (rk A h0) (by omega))
  · have l12 : v1.toInt.toNat ≤ 4095 := lt4096 (n := n) (by rw [l1]; have : 0 < 2 ^ n := Nat.pow_pos (by decide); omega) n12
    refine ⟨l0, by show v1.toInt ≤ 4095; omega, by show 0 ≤ (0 : Int32).toInt; omega, by show (0 : Int32).toInt ≤ (n : Int); omega, ⟨fun _ _ _ => rfl, fun _ _ => rfl⟩, by show (B 7 2).toInt = (0 : Int32).toInt; rw [b72], fun j hj => ?_, fun _ => -1, ?_, fun h hc => ?_, fun h _ z => ?_, ?_⟩
    · replace hj : v1.toInt.toNat.testBit j = true := hj
      rw [l1, tb_all, decide_eq_true_eq] at hj
      exact hj
    · show GSt (Ct A) (RcH A) (0 : Int32).toInt.toNat _
      rw [k0]
      rfl
    · show v1.toInt.toNat.testBit (rk A h) = true ↔ (-1 : Int) < 0
      have := rk_lt hc.2 hc.1
      rw [l1, tb_all, decide_eq_true_eq]
      exact ⟨fun _ => by decide, fun _ => by omega⟩
    · replace z : (0 : Int) ≤ -1 := z
      omega
    · show cnp _ 12 + (0 : Int32).toInt.toNat ≤ n
      have := cnp_rk (A := A) (p := fun h => Ct A h ∧ (-1 : Int) < 0) (fun j z => z.1.2) 12
      rw [k0, hn]
      show cnp (fun h => Ct A h ∧ (-1 : Int) < 0) 12 + 0 ≤ _
      omega
/-! settle as a whole; what is kept of it -/
theorem ic_gr {C r : Sg} (h : IC0 C) (e : ∀ c, c ≠ 7 → c ≠ 35 → c ≠ 36 → r c = C c) (r36 : ∀ j, 0 ≤ (r 36 j).toInt ∧ (r 36 j).toInt ≤ 4095) : IC0 r := by
  refine ⟨fun k j => ?_, fun k j hk => by rw [e k (by omega) (by omega) (by omega)]; exact h.2 k j hk⟩
  by_cases c : k = 7
  · subst c; exact ⟨lo32 _, hi32 _⟩
  · by_cases d : k = 35
    · subst d; exact ⟨lo32 _, hi32 _⟩
    · by_cases f : k = 36
      · subst f; exact r36 j
      · rw [e k c d f]; exact h.1 k j
theorem Ct_cg {s r : Sg} (e1 : r 1 0 = s 1 0) (e11 : r 11 = s 11) (e13 : r 13 = s 13) : Ct r = Ct s := by
  funext h
  unfold Ct
  rw [show cnb r h = cnb s h by unfold cnb; rw [e1, e11, e13]]
theorem RcH_cg {s r : Sg} (e1 : r 1 0 = s 1 0) (e11 : r 11 = s 11) (e13 : r 13 = s 13) (e15 : r 15 = s 15) : RcH r = RcH s := by
  have e : EH r = EH s := by
    funext a b
    unfold EH
    rw [Ct_cg e1 e11 e13, e15]
  funext a b
  unfold RcH
  rw [e]
theorem GVd_cg {s r : Sg} (h : GVd s) (e1 : r 1 0 = s 1 0) (e11 : r 11 = s 11) (e13 : r 13 = s 13) (e15 : r 15 = s 15) (e7 : r 7 2 = s 7 2) (e35 : r 35 = s 35) : GVd r := by
  obtain ⟨n, g, h1, h2, h3⟩ := h
  have er : ∀ m, rk r m = rk s m := rk_cg (fun x => by unfold cnb; rw [e1, e11, e13])
  refine ⟨n, g, by rw [Ct_cg e1 e11 e13, RcH_cg e1 e11 e13 e15]; exact h1, by rw [e7]; exact h2, fun h hc => ?_⟩
  rw [Ct_cg e1 e11 e13] at hc
  rw [e35, er]
  exact h3 h hc
def GK (sx : Sg) : Prop := (sx 7 1).toInt ≤ (sx 1 1).toInt ∧ (sx 7 1 = sx 1 1 → GVd sx)
theorem GK_cg {s r : Sg} (h : GK s) (e1 : r 1 = s 1) (e11 : r 11 = s 11) (e13 : r 13 = s 13) (e15 : r 15 = s 15) (e7 : r 7 = s 7) (e35 : r 35 = s 35) : GK r :=
  ⟨by rw [e7, e1]; exact h.1, fun z => GVd_cg (h.2 (by rw [← e7, ← e1]; exact z)) (by rw [e1]) e11 e13 e15 (by rw [e7]) e35⟩
def STL (sx r : Sg) : Prop := GVd r ∧ GK r ∧ MC r ∧ ∀ k, ¬ (k = 3 ∨ k = 7 ∨ (17 ≤ k ∧ k ≤ 23) ∨ k = 35 ∨ k = 36) → r k = sx k
set_option maxHeartbeats 4000000 in
theorem c_settle {sx : Sg} (hI : IC sx) (hJ : JC sx) (hG : GK sx) : Ok (STL sx) (fX3_settle sx) := by
  unfold fX3_settle
  refine ok_bnd1 (j_gather hI hJ) (fun s1 h1 => ?_)
  obtain ⟨i1, j1, m1, st, f1⟩ := h1
  have e1 : s1 1 = sx 1 := f1 1 (by omega)
  have e11 : s1 11 = sx 11 := f1 11 (by omega)
  have e13 : s1 13 = sx 13 := f1 13 (by omega)
  have e15 : s1 15 = sx 15 := f1 15 (by omega)
  have e7 : s1 7 = sx 7 := f1 7 (by omega)
  have e35 : s1 35 = sx 35 := f1 35 (by omega)
  have gk1 := GK_cg hG e1 e11 e13 e15 e7 e35
  refine ok_ite (fun c => ?_) (fun c => ?_)
  · exact ok_some ⟨gk1.2 (by rw [c, st]), gk1, m1, fun k hk => f1 k (by omega)⟩
  · refine ok_lt (fun x4 f4 => ?_)
    refine ok_lt (fun s5 f5 => ?_)
    have F5 : ∀ k, k ≠ 7 → s5 k = s1 k := fun k hk => by rw [f5, up2_n hk]
    have i5 : IC0 s5 := ic_gr i1.1 (fun k a _ _ => F5 k a) (fun j => by rw [F5 36 (by decide)]; exact rdC36 i1.1)
    have m5 : MC s5 := MC_cg m1 (by rw [F5 1 (by decide)]) (by rw [F5 3 (by decide)]) (F5 11 (by decide)) (F5 12 (by decide)) (F5 13 (by decide)) (F5 15 (by decide)) (fun k a b => F5 k (by omega))
    have n5 : (s5 3 2).toInt = (rk s5 12 : Int) := m5.1
    refine ok_bnd1 (c_follow i5 n5) (fun s6 h6 => ?_)
    obtain ⟨⟨r1, r2⟩, rb⟩ := h6
    refine ok_lt (fun s8 f8 => ?_)
    have F8 : ∀ k, k ≠ 7 → k ≠ 36 → s8 k = s5 k := fun k a b => by rw [f8, up2_n a]; exact r1 k b
    have R8 : ∀ j, 0 ≤ (s8 36 j).toInt ∧ (s8 36 j).toInt ≤ 4095 := fun j => by rw [f8, up2_n (by decide)]; exact r2 j
    have i8 : IC0 s8 := ic_gr i5 (fun k a _ b => F8 k a b) R8
    obtain ⟨x, a1, a2, a3⟩ := all_is i8
    refine bnd2_of a1 ?_
    have n8 : (s8 3 2).toInt.toNat = rk s5 12 := by rw [F8 3 (by decide) (by decide), n5]; rfl
    rw [n8] at a2 a3
    have p2 : 0 < 2 ^ rk s5 12 := Nat.pow_pos (by decide)
    refine ok_mono (st_52 (A := s5) (B := s8) (n := rk s5 12) i5 m5 rfl (F8 3 (by decide) (by decide)) R8 (fun a b ha hb => ?_) (by rw [f8, up2_e]) (by omega) a3) (fun t ht => ?_)
    · have : RB s8 a b ↔ RB s6 a b := by unfold RB; rw [f8, up2_n (by decide)]
      rw [this]
      exact rb a b ha hb
    · obtain ⟨⟨t1, t2⟩, k, g, g1, g2, g3⟩ := ht
      have FT : ∀ k, k ≠ 7 → k ≠ 35 → k ≠ 36 → t k = s5 k := fun k a b c => by rw [t1 k a b]; exact F8 k a c
      have gv : GVd t := by
        refine ⟨k, g, ?_, g2, fun h hc => ?_⟩
        · rw [Ct_cg (s := s5) (by rw [FT 1 (by decide) (by decide) (by decide)]) (FT 11 (by decide) (by decide) (by decide)) (FT 13 (by decide) (by decide) (by decide)), RcH_cg (s := s5) (by rw [FT 1 (by decide) (by decide) (by decide)]) (FT 11 (by decide) (by decide) (by decide)) (FT 13 (by decide) (by decide) (by decide)) (FT 15 (by decide) (by decide) (by decide))]
          exact g1
        · rw [Ct_cg (s := s5) (by rw [FT 1 (by decide) (by decide) (by decide)]) (FT 11 (by decide) (by decide) (by decide)) (FT 13 (by decide) (by decide) (by decide))] at hc
          rw [show rk t h = rk s5 h from rk_cg (fun x => cnb_cg (FT 1 (by decide) (by decide) (by decide)) (FT 11 (by decide) (by decide) (by decide)) (FT 13 (by decide) (by decide) (by decide)) x) h]
          exact g3 h hc
      have e71 : t 7 1 = s1 3 1 := by rw [t2 1 (by decide), f8, up2_o (Or.inr (by decide)), r1 7 (by decide), f5, up2_e]; exact f4
      have e11' : t 1 = s1 1 := by rw [FT 1 (by decide) (by decide) (by decide)]; exact F5 1 (by decide)
      refine ⟨gv, ⟨by rw [e71, e11', st]; exact Int.le_refl _, fun _ => gv⟩, ?_, fun k hk => ?_⟩
      · exact MC_cg m5 (by rw [FT 1 (by decide) (by decide) (by decide)]) (by rw [FT 3 (by decide) (by decide) (by decide)]) (FT 11 (by decide) (by decide) (by decide)) (FT 12 (by decide) (by decide) (by decide)) (FT 13 (by decide) (by decide) (by decide)) (FT 15 (by decide) (by decide) (by decide)) (fun k a b => FT k (by omega) (by omega) (by omega))
      · rw [FT k (by omega) (by omega) (by omega), F5 k (by omega)]
        exact f1 k (by omega)
/-! the reference's findReach -/
theorem ix12 {a b : Int32} (a0 : 0 ≤ a.toInt) (a1 : a.toInt ≤ 11) (b0 : 0 ≤ b.toInt) (b1 : b.toInt ≤ 11) : ((12 : Int32) * a + b).toNatClampNeg = 12 * a.toInt.toNat + b.toInt.toNat ∧ ((12 : Int32) * a + b).toInt = 12 * a.toInt + b.toInt := by
  have f1 := mul_l (a := (12 : Int32)) (b := a) 12 (by decide) (by omega) (by omega)
  have f2 := add_i (a := (12 : Int32) * a) (b := b) (by omega) (by omega)
  have c := cl_i (i := (12 : Int32) * a + b) (by omega)
  omega
theorem cts_m {sx sm t : Sg} {l : Lg} {v : Int32} (hF : FEq sx (sm 1)) (sv : SV (sm 1)) (e1 : t 1 = sm 1) (a0 : 0 ≤ v.toInt) (a1 : v.toInt ≤ 11) : fX12_counts v t l = some (@ite _ (Ct sx v.toInt.toNat) (Classical.propDecidable _) 1 0, t, l) := by
  rw [counts_b (by rw [e1]; exact sv), e1]
  have e := cb_cnb (h := v.toInt.toNat) hF (by omega)
  rw [← of_i a0] at e
  rw [e]
  by_cases c : cnb sx v.toInt.toNat = true
  · rw [if_pos c, if_pos (show Ct sx v.toInt.toNat from ⟨by omega, c⟩)]
  · rw [if_neg c, if_neg (fun z : Ct sx v.toInt.toNat => c z.2)]
def RM (t : Sg) (a b : Nat) : Prop := ¬ t 8 (12 * a + b) = 0
theorem RM_e {t : Sg} {a b : Nat} {v : Int32} : RM (up2 t 8 (12 * a + b) v) a b ↔ ¬ v = 0 := by unfold RM; rw [up2_e]
theorem RM_o {t : Sg} {a b c d : Nat} {v : Int32} (hd : d < 12) (hb : b < 12) (h : ¬ (c = a ∧ d = b)) : RM (up2 t 8 (12 * a + b) v) c d ↔ RM t c d := by
  unfold RM
  rw [up2_o (Or.inr (by omega))]
def F8 (sm t : Sg) : Prop := ∀ c, c ≠ 8 → t c = sm c
theorem F8_up {sm t : Sg} {i : Nat} {v : Int32} (h : F8 sm t) : F8 sm (up2 t 8 i v) := fun c hc => by rw [up2_n hc]; exact h c hc
section
variable {sx sm : Sg} {lm : Lg}
/-- so far the entries of P are in stage m + 1, the others in stage m -/
def SG (sx t : Sg) (m : Nat) (P : Nat → Nat → Prop) : Prop := ∀ a b, a < 12 → b < 12 → (P a b → (RM t a b ↔ WA (EH sx) (m + 1) a b)) ∧ (¬ P a b → (RM t a b ↔ WA (EH sx) m a b))
theorem SG_up {t : Sg} {m a0 b0 : Nat} {v : Int32} {P Q : Nat → Nat → Prop} (h : SG sx t m P) (hb0 : b0 < 12) (hv : ¬ v = 0 ↔ WA (EH sx) (m + 1) a0 b0) (hq : ∀ a b, a < 12 → b < 12 → (Q a b ↔ (P a b ∨ (a = a0 ∧ b = b0)))) : SG sx (up2 t 8 (12 * a0 + b0) v) m Q := by
  intro a b ha hb
  by_cases c : a = a0 ∧ b = b0
  · obtain ⟨c1, c2⟩ := c
    subst c1 c2
    refine ⟨fun _ => by rw [RM_e]; exact hv, fun z => absurd ((hq a b ha hb).mpr (Or.inr ⟨rfl, rfl⟩)) z⟩
  · rw [RM_o hb hb0 c]
    refine ⟨fun z => (h a b ha hb).1 ?_, fun z => (h a b ha hb).2 (fun y => z ((hq a b ha hb).mpr (Or.inl y)))⟩
    rcases (hq a b ha hb).mp z with y | y
    · exact y
    · exact absurd y c
theorem SG_cg {t : Sg} {m : Nat} {P Q : Nat → Nat → Prop} (h : SG sx t m P) (hq : ∀ a b, a < 12 → b < 12 → (Q a b ↔ P a b)) : SG sx t m Q := fun a b ha hb => ⟨fun z => (h a b ha hb).1 ((hq a b ha hb).mp z), fun z => (h a b ha hb).2 (fun y => z ((hq a b ha hb).mpr y))⟩
theorem SG_m1 {t : Sg} {m a : Nat} {P : Nat → Nat → Prop} (h : SG sx t m P) (ha : a < 12) (hm : m < 12) : RM t a m ↔ WA (EH sx) m a m := by
  have q := h a m ha hm
  by_cases c : P a m
  · rw [q.1 c]
    exact ⟨fun z => by
      rcases z with z | z
      · exact z
      · exact z.1, Or.inl⟩
  · exact q.2 c
theorem SG_m2 {t : Sg} {m b : Nat} {P : Nat → Nat → Prop} (h : SG sx t m P) (hb : b < 12) (hm : m < 12) : RM t m b ↔ WA (EH sx) m m b := by
  have q := h m b hm hb
  by_cases c : P m b
  · rw [q.1 c]
    exact ⟨fun z => by
      rcases z with z | z
      · exact z
      · exact z.2, Or.inl⟩
  · exact q.2 c
set_option maxHeartbeats 4000000 in
theorem fr_92 {s0 : Sg} {v1 v2 : Int32} {P : Sg × Lg → Prop} {r76 : (Int32 × Sg × Lg) → Option (Sg × Lg)} {r84 : (Int32 × Int32 × Sg × Lg) → Option (Sg × Lg)} (h0 : F8 sm s0) (a0 : 0 ≤ v1.toInt) (a1 : v1.toInt ≤ 11) (b0 : 0 ≤ v2.toInt) (b1 : v2.toInt ≤ 11) (hs : SG sx s0 v1.toInt.toNat (fun a _ => a < v2.toInt.toNat))
    (hr : ∀ (x : Int32) (t : Sg), x.toInt = v2.toInt + 1 → F8 sm t → SG sx t v1.toInt.toNat (fun a _ => a < v2.toInt.toNat + 1) → Ok P (r84 (v1, x, t, lm))) : Ok P (LX12_findReach_92 r76 r84 (v1, v2, (0 : Int32), s0, lm)) := by
  have k0 : (0 : Int32).toInt = 0 := by decide
  have k12 : (12 : Int32).toInt = 12 := by decide
  unfold LX12_findReach_92
  refine ok_loop (I := fun (q : Int32 × Int32 × Int32 × Sg × Lg) => q.1 = v1 ∧ q.2.1 = v2 ∧ 0 ≤ q.2.2.1.toInt ∧ q.2.2.1.toInt ≤ 12 ∧ F8 sm q.2.2.2.1 ∧ q.2.2.2.2 = lm ∧ SG sx q.2.2.2.1 v1.toInt.toNat (fun a b => a < v2.toInt.toNat ∨ (a = v2.toInt.toNat ∧ b < q.2.2.1.toInt.toNat))) (m := fun (q : Int32 × Int32 × Int32 × Sg × Lg) => (13 - q.2.2.1.toInt).toNat) _ ?_ ?_ _ ?_
  · intro q hq
    have := hq.2.2.1
    show (13 - q.2.2.1.toInt).toNat < 10000
    omega
  · intro rec q hq hrec
    obtain ⟨q1, q2, v3, t, l⟩ := q
    replace hq : q1 = v1 ∧ q2 = v2 ∧ 0 ≤ v3.toInt ∧ v3.toInt ≤ 12 ∧ F8 sm t ∧ l = lm ∧ SG sx t v1.toInt.toNat (fun a b => a < v2.toInt.toNat ∨ (a = v2.toInt.toNat ∧ b < v3.toInt.toNat)) := hq
    obtain ⟨e1, e2, c0, c1, ht, e3, hs⟩ := hq
    rw [e1, e2, e3]
    show Ok P (fX12_findReach_92 r76 r84 rec v1 v2 v3 t lm)
    unfold fX12_findReach_92
    refine ok_ite (fun c => ?_) (fun c => ?_)
    · replace c := i_le.mp c
      refine ok_lt (fun x e => ?_)
      replace e : x.toInt = v2.toInt + 1 := by rw [e]; exact add_c 1 (by decide) (by omega) (by omega)
      refine hr x t e ht (SG_cg hs (fun a b ha hb => ?_))
      show a < v2.toInt.toNat + 1 ↔ (a < v2.toInt.toNat ∨ (a = v2.toInt.toNat ∧ b < v3.toInt.toNat))
      omega
    · replace c := i_nle.mp c
      have i23 := ix12 (a := v2) (b := v3) b0 b1 c0 (by omega)
      have i21 := ix12 (a := v2) (b := v1) b0 b1 a0 a1
      have i13 := ix12 (a := v1) (b := v3) a0 a1 c0 (by omega)
      have b3 : v3.toInt.toNat < 12 := by omega
      have b2 : v2.toInt.toNat < 12 := by omega
      have b1' : v1.toInt.toNat < 12 := by omega
      have old := (hs v2.toInt.toNat v3.toInt.toNat b2 b3).2 (by show ¬ (_ ∨ _); omega)
      have m1 := SG_m1 hs b2 b1'
      have m2 := SG_m2 hs b3 b1'
      have go : ∀ w0 : Int32, (¬ (w0 &&& 1) = 0 ↔ WA (EH sx) (v1.toInt.toNat + 1) v2.toInt.toNat v3.toInt.toNat) → Ok P (fX12_findReach_155 r76 r84 rec v1 v2 v3 w0 ((12 : Int32) * v2 + v3) t lm) := by
        intro w0 hw
        unfold fX12_findReach_155
        refine ok_gin (by omega) (by omega) ?_
        refine ok_lt (fun s2 f2 => ?_)
        refine ok_lt (fun x e => ?_)
        replace e : x.toInt = v3.toInt + 1 := by rw [e]; exact add_c 1 (by decide) (by omega) (by omega)
        rw [i23.1] at f2
        refine hrec (v1, v2, x, s2, lm) ⟨rfl, rfl, by show 0 ≤ x.toInt; omega, by show x.toInt ≤ 12; omega, by show F8 sm s2; rw [f2]; exact F8_up ht, rfl, ?_⟩ (show (13 - x.toInt).toNat < (13 - v3.toInt).toNat by omega)
        show SG sx s2 v1.toInt.toNat (fun a b => a < v2.toInt.toNat ∨ (a = v2.toInt.toNat ∧ b < x.toInt.toNat))
        rw [f2]
        refine SG_up hs b3 hw (fun a b ha hb => ?_)
        omega
      refine ok_lt (fun x3 f3 => ?_)
      rw [f3]
      refine ok_gin (by omega) (by omega) ?_
      rw [i23.1]
      unfold RM at old m1 m2
      refine ok_ite (fun d => ?_) (fun d => ?_)
      · refine ok_lt (fun x6 f6 => ?_)
        rw [f6]
        refine ok_gin (by omega) (by omega) ?_
        rw [i21.1]
        refine ok_ite (fun f => ?_) (fun f => ?_)
        · unfold fX12_findReach_154
          refine go 0 ⟨fun z => absurd (by decide) z, fun z => ?_⟩
          rcases z with z | z
          · exact absurd d (old.mpr z)
          · exact absurd f (m1.mpr z.1)
        · refine ok_lt (fun x9 f9 => ?_)
          rw [f9]
          refine ok_gin (by omega) (by omega) ?_
          rw [i13.1]
          refine ok_ite (fun g => ?_) (fun g => ?_)
          · unfold fX12_findReach_154
            refine go 0 ⟨fun z => absurd (by decide) z, fun z => ?_⟩
            rcases z with z | z
            · exact absurd d (old.mpr z)
            · exact absurd g (m2.mpr z.2)
          · unfold fX12_findReach_150
            exact go 1 ⟨fun _ => Or.inr ⟨m1.mp f, m2.mp g⟩, fun _ => by decide⟩
      · unfold fX12_findReach_150
        exact go 1 ⟨fun _ => Or.inl (old.mp d), fun _ => by decide⟩
  · refine ⟨rfl, rfl, by show 0 ≤ (0 : Int32).toInt; omega, by show (0 : Int32).toInt ≤ 12; omega, h0, rfl, SG_cg hs (fun a b ha hb => ?_)⟩
    show (a < v2.toInt.toNat ∨ (a = v2.toInt.toNat ∧ b < (0 : Int32).toInt.toNat)) ↔ a < v2.toInt.toNat
    omega
set_option maxHeartbeats 4000000 in
theorem fr_84 {s0 : Sg} {v1 : Int32} {P : Sg × Lg → Prop} {r76 : (Int32 × Sg × Lg) → Option (Sg × Lg)} (h0 : F8 sm s0) (a0 : 0 ≤ v1.toInt) (a1 : v1.toInt ≤ 11) (hs : SG sx s0 v1.toInt.toNat (fun _ _ => False))
    (hr : ∀ (x : Int32) (t : Sg), x.toInt = v1.toInt + 1 → F8 sm t → SG sx t (v1.toInt.toNat + 1) (fun _ _ => False) → Ok P (r76 (x, t, lm))) : Ok P (LX12_findReach_84 r76 (v1, (0 : Int32), s0, lm)) := by
  have k0 : (0 : Int32).toInt = 0 := by decide
  have k12 : (12 : Int32).toInt = 12 := by decide
  unfold LX12_findReach_84
  refine ok_loop (I := fun (q : Int32 × Int32 × Sg × Lg) => q.1 = v1 ∧ 0 ≤ q.2.1.toInt ∧ q.2.1.toInt ≤ 12 ∧ F8 sm q.2.2.1 ∧ q.2.2.2 = lm ∧ SG sx q.2.2.1 v1.toInt.toNat (fun a _ => a < q.2.1.toInt.toNat)) (m := fun (q : Int32 × Int32 × Sg × Lg) => (13 - q.2.1.toInt).toNat) _ ?_ ?_ _ ?_
  · intro q hq
    have := hq.2.1
    show (13 - q.2.1.toInt).toNat < 10000
    omega
  · intro rec q hq hrec
    obtain ⟨q1, v2, t, l⟩ := q
    replace hq : q1 = v1 ∧ 0 ≤ v2.toInt ∧ v2.toInt ≤ 12 ∧ F8 sm t ∧ l = lm ∧ SG sx t v1.toInt.toNat (fun a _ => a < v2.toInt.toNat) := hq
    obtain ⟨e1, c0, c1, ht, e3, hs⟩ := hq
    rw [e1, e3]
    show Ok P (fX12_findReach_84 r76 rec v1 v2 t lm)
    unfold fX12_findReach_84
    refine ok_ite (fun c => ?_) (fun c => ?_)
    · replace c := i_le.mp c
      refine ok_lt (fun x e => ?_)
      replace e : x.toInt = v1.toInt + 1 := by rw [e]; exact add_c 1 (by decide) (by omega) (by omega)
      refine hr x t e ht (fun a b ha hb => ⟨fun z => absurd z (fun y => y), fun _ => (hs a b ha hb).1 (by show a < v2.toInt.toNat; omega)⟩)
    · replace c := i_nle.mp c
      refine fr_92 ht a0 a1 c0 (by omega) hs (fun x t' ex ht' hs' => ?_)
      refine hrec (v1, x, t', lm) ⟨rfl, by show 0 ≤ x.toInt; omega, by show x.toInt ≤ 12; omega, ht', rfl, ?_⟩ (show (13 - x.toInt).toNat < (13 - v2.toInt).toNat by omega)
      show SG sx t' v1.toInt.toNat (fun a _ => a < x.toInt.toNat)
      rw [show x.toInt.toNat = v2.toInt.toNat + 1 by omega]
      exact hs'
  · refine ⟨rfl, by show 0 ≤ (0 : Int32).toInt; omega, by show (0 : Int32).toInt ≤ 12; omega, h0, rfl, SG_cg hs (fun a b ha hb => ?_)⟩
    show a < (0 : Int32).toInt.toNat ↔ False
    rw [k0]
    exact ⟨fun z => absurd z (Nat.not_lt_zero _), fun z => absurd z (fun y => y)⟩
set_option maxHeartbeats 4000000 in
theorem fr_10 {s0 : Sg} {v1 : Int32} {P : Sg × Lg → Prop} {r2 : (Int32 × Sg × Lg) → Option (Sg × Lg)} (hF : FEq sx (sm 1)) (sv : SV (sm 1)) (h0 : F8 sm s0) (a0 : 0 ≤ v1.toInt) (a1 : v1.toInt ≤ 11) (hs : ∀ a b, a < v1.toInt.toNat → b < 12 → (RM s0 a b ↔ EH sx a b))
    (hr : ∀ (x : Int32) (t : Sg), x.toInt = v1.toInt + 1 → F8 sm t → (∀ a b, a < v1.toInt.toNat + 1 → b < 12 → (RM t a b ↔ EH sx a b)) → Ok P (r2 (x, t, lm))) : Ok P (LX12_findReach_10 r2 (v1, (0 : Int32), s0, lm)) := by
  have k0 : (0 : Int32).toInt = 0 := by decide
  have k12 : (12 : Int32).toInt = 12 := by decide
  unfold LX12_findReach_10
  refine ok_loop (I := fun (q : Int32 × Int32 × Sg × Lg) => q.1 = v1 ∧ 0 ≤ q.2.1.toInt ∧ q.2.1.toInt ≤ 12 ∧ F8 sm q.2.2.1 ∧ q.2.2.2 = lm ∧ ∀ a b, (a < v1.toInt.toNat ∨ (a = v1.toInt.toNat ∧ b < q.2.1.toInt.toNat)) → b < 12 → (RM q.2.2.1 a b ↔ EH sx a b)) (m := fun (q : Int32 × Int32 × Sg × Lg) => (13 - q.2.1.toInt).toNat) _ ?_ ?_ _ ?_
  · intro q hq
    have := hq.2.1
    show (13 - q.2.1.toInt).toNat < 10000
    omega
  · intro rec q hq hrec
    obtain ⟨q1, v2, t, l⟩ := q
    replace hq : q1 = v1 ∧ 0 ≤ v2.toInt ∧ v2.toInt ≤ 12 ∧ F8 sm t ∧ l = lm ∧ ∀ a b, (a < v1.toInt.toNat ∨ (a = v1.toInt.toNat ∧ b < v2.toInt.toNat)) → b < 12 → (RM t a b ↔ EH sx a b) := hq
    obtain ⟨e1, c0, c1, ht, e3, hs⟩ := hq
    rw [e1, e3]
    show Ok P (fX12_findReach_10 r2 rec v1 v2 t lm)
    unfold fX12_findReach_10
    refine ok_ite (fun c => ?_) (fun c => ?_)
    · replace c := i_le.mp c
      refine ok_lt (fun x e => ?_)
      replace e : x.toInt = v1.toInt + 1 := by rw [e]; exact add_c 1 (by decide) (by omega) (by omega)
      exact hr x t e ht (fun a b ha hb => hs a b (by omega) hb)
    · replace c := i_nle.mp c
      have i12 := ix12 (a := v1) (b := v2) a0 a1 c0 (by omega)
      have go : ∀ w0 : Int32, (¬ (w0 &&& 1) = 0 ↔ EH sx v1.toInt.toNat v2.toInt.toNat) → Ok P (fX12_findReach_61 r2 rec v1 v2 w0 ((12 : Int32) * v1 + v2) t lm) := by
        intro w0 hw
        unfold fX12_findReach_61
        refine ok_gin (by omega) (by omega) ?_
        refine ok_lt (fun s2 f2 => ?_)
        refine ok_lt (fun x e => ?_)
        replace e : x.toInt = v2.toInt + 1 := by rw [e]; exact add_c 1 (by decide) (by omega) (by omega)
        rw [i12.1] at f2
        refine hrec (v1, x, s2, lm) ⟨rfl, by show 0 ≤ x.toInt; omega, by show x.toInt ≤ 12; omega, by show F8 sm s2; rw [f2]; exact F8_up ht, rfl, fun a b hab hb => ?_⟩ (show (13 - x.toInt).toNat < (13 - v2.toInt).toNat by omega)
        replace hab : a < v1.toInt.toNat ∨ (a = v1.toInt.toNat ∧ b < x.toInt.toNat) := hab
        show RM s2 a b ↔ EH sx a b
        rw [f2]
        by_cases w : a = v1.toInt.toNat ∧ b = v2.toInt.toNat
        · rw [w.1, w.2, RM_e]; exact hw
        · rw [RM_o hb (by omega) w]
          exact hs a b (by omega) hb
      refine ok_ite (fun d => ?_) (fun d => ?_)
      · unfold fX12_findReach_56
        exact go 1 ⟨fun _ => Or.inl (by rw [d]), fun _ => by decide⟩
      · have dn : ¬ v1.toInt.toNat = v2.toInt.toNat := fun z => d (Int32.toInt_inj.mp (by omega))
        have no : (¬ (Ct sx v1.toInt.toNat ∧ Ct sx v2.toInt.toNat ∧ 0 < (sx 15 (12 * v1.toInt.toNat + v2.toInt.toNat)).toInt)) → Ok P (fX12_findReach_60 r2 rec v1 v2 ((12 : Int32) * v1 + v2) t lm) := fun z => by
          unfold fX12_findReach_60
          refine go 0 ⟨fun y => absurd (by decide) y, fun y => ?_⟩
          rcases y with y | y
          · exact absurd y dn
          · exact absurd y z
        have e1' : t 1 = sm 1 := ht 1 (by decide)
        refine bnd3_of (cts_m hF sv e1' a0 a1) ?_
        by_cases w1 : Ct sx v1.toInt.toNat
        · rw [if_pos w1, ite1]
          refine bnd3_of (cts_m hF sv e1' c0 (by omega)) ?_
          by_cases w2 : Ct sx v2.toInt.toNat
          · rw [if_pos w2, ite1]
            refine bnd3_of (peckOf_is a0 a1 c0 (by omega)) ?_
            have hc1 := cl_i a0
            have hc2 := cl_i c0
            have lt := (of_decide_eq_true w1.2).1
            have row := (hF.2 v1.toInt.toNat lt).2.2.2.2 v2.toInt.toNat (by omega)
            rw [e1', show v1.toNatClampNeg = v1.toInt.toNat by omega, show v2.toNatClampNeg = v2.toInt.toNat by omega, row]
            refine ok_ite (fun f => ?_) (fun f => ?_)
            · replace f := i_le.mp f
              exact no (fun z => by have := z.2.2; omega)
            · replace f := i_nle.mp f
              unfold fX12_findReach_56
              exact go 1 ⟨fun _ => Or.inr ⟨w1, w2, by omega⟩, fun _ => by decide⟩
          · rw [if_neg w2, ite0]
            exact no (fun z => w2 z.2.1)
        · rw [if_neg w1, ite0]
          exact no (fun z => w1 z.1)
  · refine ⟨rfl, by show 0 ≤ (0 : Int32).toInt; omega, by show (0 : Int32).toInt ≤ 12; omega, h0, rfl, fun a b hab hb => ?_⟩
    replace hab : a < v1.toInt.toNat ∨ (a = v1.toInt.toNat ∧ b < (0 : Int32).toInt.toNat) := hab
    exact hs a b (by omega) hb
set_option maxHeartbeats 4000000 in
theorem m_reach (hF : FEq sx (sm 1)) (sv : SV (sm 1)) : Ok (fun q => q.2 = lm ∧ F8 sm q.1 ∧ ∀ a b, a < 12 → b < 12 → (RM q.1 a b ↔ RcH sx a b)) (fX12_findReach sm lm) := by
  have k0 : (0 : Int32).toInt = 0 := by decide
  have k12 : (12 : Int32).toInt = 12 := by decide
  have second : ∀ s : Sg, F8 sm s → (∀ a b, a < 12 → b < 12 → (RM s a b ↔ EH sx a b)) → Ok (fun q => q.2 = lm ∧ F8 sm q.1 ∧ ∀ a b, a < 12 → b < 12 → (RM q.1 a b ↔ RcH sx a b)) (LX12_findReach_76 ((0 : Int32), s, lm)) := by
    intro s hs hb
    unfold LX12_findReach_76
    refine ok_loop (I := fun (q : Int32 × Sg × Lg) => 0 ≤ q.1.toInt ∧ q.1.toInt ≤ 12 ∧ F8 sm q.2.1 ∧ q.2.2 = lm ∧ SG sx q.2.1 q.1.toInt.toNat (fun _ _ => False)) (m := fun (q : Int32 × Sg × Lg) => (13 - q.1.toInt).toNat) _ ?_ ?_ _ ?_
    · intro q hq
      have := hq.1
      show (13 - q.1.toInt).toNat < 10000
      omega
    · intro rec q hq hrec
      obtain ⟨v1, t, l⟩ := q
      replace hq : 0 ≤ v1.toInt ∧ v1.toInt ≤ 12 ∧ F8 sm t ∧ l = lm ∧ SG sx t v1.toInt.toNat (fun _ _ => False) := hq
      obtain ⟨c0, c1, ht, e3, hs⟩ := hq
      rw [e3]
      show Ok _ (fX12_findReach_76 rec v1 t lm)
      unfold fX12_findReach_76
      refine ok_ite (fun c => ?_) (fun c => ?_)
      · replace c := i_le.mp c
        refine ok_some ⟨rfl, ht, fun a b ha hb' => ?_⟩
        have := (hs a b ha hb').2 (fun z => z)
        rw [show v1.toInt.toNat = 12 by omega] at this
        exact this
      · replace c := i_nle.mp c
        refine fr_84 ht c0 (by omega) hs (fun x t' ex ht' hs' => ?_)
        refine hrec (x, t', lm) ⟨by show 0 ≤ x.toInt; omega, by show x.toInt ≤ 12; omega, ht', rfl, ?_⟩ (show (13 - x.toInt).toNat < (13 - v1.toInt).toNat by omega)
        show SG sx t' x.toInt.toNat (fun _ _ => False)
        rw [show x.toInt.toNat = v1.toInt.toNat + 1 by omega]
        exact hs'
    · refine ⟨by show 0 ≤ (0 : Int32).toInt; omega, by show (0 : Int32).toInt ≤ 12; omega, hs, rfl, fun a b ha hb' => ⟨fun z => absurd z (fun y => y), fun _ => ?_⟩⟩
      show RM s a b ↔ WA (EH sx) (0 : Int32).toInt.toNat a b
      rw [k0]
      exact hb a b ha hb'
  unfold fX12_findReach LX12_findReach_2
  refine ok_loop (I := fun (q : Int32 × Sg × Lg) => 0 ≤ q.1.toInt ∧ q.1.toInt ≤ 12 ∧ F8 sm q.2.1 ∧ q.2.2 = lm ∧ ∀ a b, a < q.1.toInt.toNat → b < 12 → (RM q.2.1 a b ↔ EH sx a b)) (m := fun (q : Int32 × Sg × Lg) => (13 - q.1.toInt).toNat) _ ?_ ?_ _ ?_
  · intro q hq
    have := hq.1
    show (13 - q.1.toInt).toNat < 10000
    omega
  · intro rec q hq hrec
    obtain ⟨v1, t, l⟩ := q
    replace hq : 0 ≤ v1.toInt ∧ v1.toInt ≤ 12 ∧ F8 sm t ∧ l = lm ∧ ∀ a b, a < v1.toInt.toNat → b < 12 → (RM t a b ↔ EH sx a b) := hq
    obtain ⟨c0, c1, ht, e3, hs⟩ := hq
    rw [e3]
    show Ok _ (fX12_findReach_2 rec v1 t lm)
    unfold fX12_findReach_2
    refine ok_ite (fun c => ?_) (fun c => ?_)
    · replace c := i_le.mp c
      exact second t ht (fun a b ha hb => hs a b (by omega) hb)
    · replace c := i_nle.mp c
      refine fr_10 hF sv ht c0 (by omega) hs (fun x t' ex ht' hs' => ?_)
      refine hrec (x, t', lm) ⟨by show 0 ≤ x.toInt; omega, by show x.toInt ≤ 12; omega, ht', rfl, fun a b ha hb => ?_⟩ (show (13 - x.toInt).toNat < (13 - v1.toInt).toNat by omega)
      replace ha : a < x.toInt.toNat := ha
      exact hs' a b (by omega) hb
  · refine ⟨by show 0 ≤ (0 : Int32).toInt; omega, by show (0 : Int32).toInt ≤ 12; omega, fun _ _ => rfl, rfl, fun a b ha hb => ?_⟩
    replace ha : a < (0 : Int32).toInt.toNat := ha
    rw [k0] at ha
    exact absurd ha (Nat.not_lt_zero _)
end
/-! the reference's isOne, isNext, findGroups -/
section
variable {sx sm : Sg} {lm : Lg}
/-- the reach stands in cell 8 -/
def RO8 (sx sm t : Sg) : Prop := t 1 = sm 1 ∧ ∀ a b, a < 12 → b < 12 → (RM t a b ↔ RcH sx a b)
theorem isOne_is {t : Sg} {l : Lg} {v1 v2 : Int32} (h : RO8 sx sm t) (a0 : 0 ≤ v1.toInt) (a1 : v1.toInt ≤ 11) (b0 : 0 ≤ v2.toInt) (b1 : v2.toInt ≤ 11) : fX12_isOne v1 v2 t l = some (@ite _ (RcH sx v1.toInt.toNat v2.toInt.toNat ∧ RcH sx v2.toInt.toNat v1.toInt.toNat) (Classical.propDecidable _) 1 0, t, l) := by
  have i12 := ix12 (a := v1) (b := v2) a0 a1 b0 b1
  have i21 := ix12 (a := v2) (b := v1) b0 b1 a0 a1
  have r12 := h.2 v1.toInt.toNat v2.toInt.toNat (by omega) (by omega)
  have r21 := h.2 v2.toInt.toNat v1.toInt.toNat (by omega) (by omega)
  unfold RM at r12 r21
  unfold fX12_isOne
  show gin ((12 : Int32) * v1 + v2) 144 ((if (t 8 ((12 : Int32) * v1 + v2).toNatClampNeg) = 0 then some ((0 : Int32), t, l) else gin ((12 : Int32) * v2 + v1) 144 ((if (t 8 ((12 : Int32) * v2 + v1).toNatClampNeg) = 0 then some ((0 : Int32), t, l) else some ((1 : Int32), t, l))))) = _
  rw [gin_in (vin_i (by omega) (by omega)), gin_in (vin_i (by omega) (by omega)), i12.1, i21.1]
  by_cases c : t 8 (12 * v1.toInt.toNat + v2.toInt.toNat) = 0
  · rw [if_pos c, if_neg (fun z => r12.mpr z.1 c)]
  · rw [if_neg c]
    by_cases d : t 8 (12 * v2.toInt.toNat + v1.toInt.toNat) = 0
    · rw [if_pos d, if_neg (fun z => r21.mpr z.2 d)]
    · rw [if_neg d, if_pos ⟨r12.mp c, r21.mp d⟩]
def gt9 (t : Sg) (h : Nat) : Int := (t 9 h).toInt
theorem Ct_hen {o : Nat} (hF : FEq sx (sm 1)) (h : Ct sx o) : (o : Int) < (sm 1 0).toInt := by
  have := (of_decide_eq_true h.2).1
  rw [hF.1]; omega
set_option maxHeartbeats 4000000 in
theorem m_isNext {t : Sg} {l : Lg} {v1 : Int32} (hF : FEq sx (sm 1)) (sv : SV (sm 1)) (h : RO8 sx sm t) (a0 : 0 ≤ v1.toInt) (a1 : v1.toInt ≤ 11) : Ok (fun q => q.2 = (t, l) ∧ ((q.1 = 1 ∧ Nx (Ct sx) (RcH sx) (gt9 t) v1.toInt.toNat) ∨ (q.1 = 0 ∧ ¬ Nx (Ct sx) (RcH sx) (gt9 t) v1.toInt.toNat))) (fX12_isNext v1 t l) := by
  have k0 : (0 : Int32).toInt = 0 := by decide
  have hc1 := cl_i a0
  have s12 := sv.2.1
  unfold fX12_isNext
  refine bnd3_of (cts_m hF sv h.1 a0 a1) ?_
  by_cases w1 : Ct sx v1.toInt.toNat
  · rw [if_pos w1, ite1]
    refine ok_gin (by omega) (by omega) ?_
    rw [show v1.toNatClampNeg = v1.toInt.toNat by omega]
    refine ok_ite (fun c => ?_) (fun c => ?_)
    · replace c := i_lt.mp c
      rw [k0] at c
      unfold LX12_isNext_23
      refine ok_loop (I := fun (q : Int32 × Int32 × Int32 × Sg × Lg) => q.1 = v1 ∧ 0 ≤ q.2.2.1.toInt ∧ q.2.2.1.toInt ≤ 12 ∧ q.2.2.2 = (t, l) ∧ ((q.2.1 = 1 ∧ ∀ o : Nat, (o : Int) < q.2.2.1.toInt → Ct sx o → gt9 t o < 0 → RcH sx o v1.toInt.toNat → RcH sx v1.toInt.toNat o) ∨ (q.2.1 = 0 ∧ ∃ o : Nat, Ct sx o ∧ gt9 t o < 0 ∧ RcH sx o v1.toInt.toNat ∧ ¬ RcH sx v1.toInt.toNat o))) (m := fun (q : Int32 × Int32 × Int32 × Sg × Lg) => (13 - q.2.2.1.toInt).toNat) _ ?_ ?_ _ ?_
      · intro q hq
        have := hq.2.1
        show (13 - q.2.2.1.toInt).toNat < 10000
        omega
      · intro rec q hq hrec
        obtain ⟨q1, v2, v3, t', l'⟩ := q
        replace hq : q1 = v1 ∧ 0 ≤ v3.toInt ∧ v3.toInt ≤ 12 ∧ (t', l') = (t, l) ∧ ((v2 = 1 ∧ ∀ o : Nat, (o : Int) < v3.toInt → Ct sx o → gt9 t o < 0 → RcH sx o v1.toInt.toNat → RcH sx v1.toInt.toNat o) ∨ (v2 = 0 ∧ ∃ o : Nat, Ct sx o ∧ gt9 t o < 0 ∧ RcH sx o v1.toInt.toNat ∧ ¬ RcH sx v1.toInt.toNat o)) := hq
        obtain ⟨e1, b0, b1, e2, alt⟩ := hq
        obtain ⟨z1, z2⟩ := Prod.mk.inj e2
        rw [e1, z1, z2]
        show Ok _ (fX12_isNext_23 rec v1 v2 v3 t l)
        unfold fX12_isNext_23
        refine bnd3_of hens_is ?_
        rw [h.1]
        have hc3 := cl_i b0
        have go : ∀ w0 : Int32, v3.toInt ≤ 11 → ((w0 = 1 ∧ ∀ o : Nat, (o : Int) < v3.toInt + 1 → Ct sx o → gt9 t o < 0 → RcH sx o v1.toInt.toNat → RcH sx v1.toInt.toNat o) ∨ (w0 = 0 ∧ ∃ o : Nat, Ct sx o ∧ gt9 t o < 0 ∧ RcH sx o v1.toInt.toNat ∧ ¬ RcH sx v1.toInt.toNat o)) → Ok (fun q => q.2 = (t, l) ∧ ((q.1 = 1 ∧ Nx (Ct sx) (RcH sx) (gt9 t) v1.toInt.toNat) ∨ (q.1 = 0 ∧ ¬ Nx (Ct sx) (RcH sx) (gt9 t) v1.toInt.toNat))) (fX12_isNext_80 rec v1 v3 w0 t l) := by
          intro w0 g0 g1
          unfold fX12_isNext_80
          refine ok_lt (fun x e => ?_)
          replace e : x.toInt = v3.toInt + 1 := by rw [e]; exact add_c 1 (by decide) (by omega) (by omega)
          refine hrec (v1, w0, x, t, l) ⟨rfl, by show 0 ≤ x.toInt; omega, by show x.toInt ≤ 12; omega, rfl, ?_⟩ (show (13 - x.toInt).toNat < (13 - v3.toInt).toNat by omega)
          show (w0 = 1 ∧ ∀ o : Nat, (o : Int) < x.toInt → _) ∨ _
          rw [e]; exact g1
        refine ok_ite (fun d => ?_) (fun d => ?_)
        · replace d := i_le.mp d
          have gz : ∀ {P : Int32 × Sg × Lg → Prop}, P (v2, t, l) → Ok P (gz v2 (some (v2, t, l))) := fun {P} hp => by
            rcases alt with ⟨y, -⟩ | ⟨y, -⟩
            · rw [y] at hp ⊢; exact ⟨_, rfl, hp⟩
            · rw [y] at hp ⊢; exact ⟨_, rfl, hp⟩
          refine gz ⟨rfl, ?_⟩
          rcases alt with ⟨y1, y2⟩ | ⟨y1, o, y2, y3, y4, y5⟩
          · exact Or.inl ⟨y1, w1, c, fun o co go ro => y2 o (by have := Ct_hen hF co; omega) co go ro⟩
          · exact Or.inr ⟨y1, fun z => y5 (z.2.2 o y2 y3 y4)⟩
        · replace d := i_nle.mp d
          rcases alt with ⟨y1, y2⟩ | ⟨y1, y2⟩
          · rw [y1, ite1]
            have g75 : (Ct sx v3.toInt.toNat → gt9 t v3.toInt.toNat < 0 → RcH sx v3.toInt.toNat v1.toInt.toNat → RcH sx v1.toInt.toNat v3.toInt.toNat) → Ok (fun q => q.2 = (t, l) ∧ ((q.1 = 1 ∧ Nx (Ct sx) (RcH sx) (gt9 t) v1.toInt.toNat) ∨ (q.1 = 0 ∧ ¬ Nx (Ct sx) (RcH sx) (gt9 t) v1.toInt.toNat))) (fX12_isNext_75 rec v1 v3 t l) := fun hz => by
              unfold fX12_isNext_75
              refine go 1 (by omega) (Or.inl ⟨rfl, fun o ho co go' ro => ?_⟩)
              by_cases w : o = v3.toInt.toNat
              · rw [w] at co go' ro ⊢; exact hz co go' ro
              · exact y2 o (by omega) co go' ro
            refine bnd3_of (cts_m hF sv h.1 b0 (by omega)) ?_
            by_cases w3 : Ct sx v3.toInt.toNat
            · rw [if_pos w3, ite1]
              refine ok_gin (by omega) (by omega) ?_
              rw [show v3.toNatClampNeg = v3.toInt.toNat by omega]
              refine ok_ite (fun f => ?_) (fun f => ?_)
              · replace f := i_le.mp f
                rw [k0] at f
                exact g75 (fun _ z _ => by unfold gt9 at z; omega)
              · replace f := i_nle.mp f
                rw [k0] at f
                refine bnd3_of (isOne_is h b0 (by omega) a0 a1) ?_
                by_cases o1 : RcH sx v3.toInt.toNat v1.toInt.toNat ∧ RcH sx v1.toInt.toNat v3.toInt.toNat
                · rw [if_pos o1, ite1]
                  exact g75 (fun _ _ _ => o1.2)
                · rw [if_neg o1, ite0]
                  have i31 := ix12 (a := v3) (b := v1) b0 (by omega) a0 a1
                  refine ok_lt (fun x20 f20 => ?_)
                  rw [f20]
                  refine ok_gin (by omega) (by omega) ?_
                  rw [i31.1]
                  have r31 := h.2 v3.toInt.toNat v1.toInt.toNat (by omega) (by omega)
                  unfold RM at r31
                  refine ok_ite (fun g => ?_) (fun g => ?_)
                  · exact g75 (fun _ _ z => absurd g (r31.mpr z))
                  · unfold fX12_isNext_79
                    exact go 0 (by omega) (Or.inr ⟨rfl, v3.toInt.toNat, w3, f, r31.mp g, fun z => o1 ⟨r31.mp g, z⟩⟩)
            · rw [if_neg w3, ite0]
              exact g75 (fun z => absurd z w3)
          · rw [y1, ite0]
            unfold fX12_isNext_79
            exact go 0 (by omega) (Or.inr ⟨rfl, y2⟩)
      · refine ⟨rfl, by show 0 ≤ (0 : Int32).toInt; omega, by show (0 : Int32).toInt ≤ 12; omega, rfl, Or.inl ⟨rfl, fun o ho => ?_⟩⟩
        replace ho : (o : Int) < (0 : Int32).toInt := ho
        omega
    · replace c := i_nlt.mp c
      rw [k0] at c
      refine ok_some ⟨rfl, Or.inr ⟨rfl, fun z => ?_⟩⟩
      have := z.2.1
      unfold gt9 at this
      omega
  · rw [if_neg w1, ite0]
    exact ok_some ⟨rfl, Or.inr ⟨rfl, fun z => w1 z.1⟩⟩
/-- only cells 8 and 9 have changed -/
def F89 (sm t : Sg) : Prop := ∀ c, c ≠ 8 → c ≠ 9 → t c = sm c
set_option maxHeartbeats 4000000 in
theorem fg_47 {s0 : Sg} {v1 v2 : Int32} {P : Int32 × Sg × Lg → Prop} {r29 : (Int32 × Int32 × Sg × Lg) → Option (Int32 × Sg × Lg)} (hF : FEq sx (sm 1)) (sv : SV (sm 1)) (h0 : F89 sm s0) (hR : RO8 sx sm s0) (n0 : 0 ≤ v1.toInt) (n1 : v1.toInt ≤ 12) (a0 : 0 ≤ v2.toInt) (a1 : v2.toInt ≤ 11)
    (hr : ∀ (x : Int32) (t : Sg), x.toInt = v1.toInt + 1 → F89 sm t → RO8 sx sm t → (∀ o, gt9 t o = gup (Ct sx) (RcH sx) (gt9 s0) v2.toInt.toNat v1.toInt.toNat o) → Ok P (r29 (x, (0 : Int32), t, lm))) : Ok P (LX12_findGroups_47 r29 (v1, v2, (0 : Int32), s0, lm)) := by
  have k0 : (0 : Int32).toInt = 0 := by decide
  have s12 := sv.2.1
  unfold LX12_findGroups_47
  refine ok_loop (I := fun (q : Int32 × Int32 × Int32 × Sg × Lg) => q.1 = v1 ∧ q.2.1 = v2 ∧ 0 ≤ q.2.2.1.toInt ∧ q.2.2.1.toInt ≤ 12 ∧ q.2.2.2.2 = lm ∧ F89 sm q.2.2.2.1 ∧ RO8 sx sm q.2.2.2.1 ∧ ∀ o : Nat, ((o : Int) < q.2.2.1.toInt → gt9 q.2.2.2.1 o = gup (Ct sx) (RcH sx) (gt9 s0) v2.toInt.toNat v1.toInt.toNat o) ∧ (q.2.2.1.toInt ≤ (o : Int) → gt9 q.2.2.2.1 o = gt9 s0 o)) (m := fun (q : Int32 × Int32 × Int32 × Sg × Lg) => (13 - q.2.2.1.toInt).toNat) _ ?_ ?_ _ ?_
  · intro q hq
    have := hq.2.2.1
    show (13 - q.2.2.1.toInt).toNat < 10000
    omega
  · intro rec q hq hrec
    obtain ⟨q1, q2, v3, t, l⟩ := q
    replace hq : q1 = v1 ∧ q2 = v2 ∧ 0 ≤ v3.toInt ∧ v3.toInt ≤ 12 ∧ l = lm ∧ F89 sm t ∧ RO8 sx sm t ∧ ∀ o : Nat, ((o : Int) < v3.toInt → gt9 t o = gup (Ct sx) (RcH sx) (gt9 s0) v2.toInt.toNat v1.toInt.toNat o) ∧ (v3.toInt ≤ (o : Int) → gt9 t o = gt9 s0 o) := hq
    obtain ⟨e1, e2, b0, b1, e3, ht, hR, hg⟩ := hq
    rw [e1, e2, e3]
    show Ok P (fX12_findGroups_47 r29 rec v1 v2 v3 t lm)
    unfold fX12_findGroups_47
    refine bnd3_of hens_is ?_
    rw [hR.1]
    have hc3 := cl_i b0
    refine ok_ite (fun c => ?_) (fun c => ?_)
    · replace c := i_le.mp c
      refine ok_lt (fun x e => ?_)
      replace e : x.toInt = v1.toInt + 1 := by rw [e]; exact add_c 1 (by decide) (by omega) (by omega)
      unfold fX12_findGroups_99
      show Ok P (r29 (x, (-1 : Int32) + 1, t, lm))
      rw [show (-1 : Int32) + 1 = 0 by decide]
      refine hr x t e ht hR (fun o => ?_)
      by_cases w : (o : Int) < v3.toInt
      · exact (hg o).1 w
      · rw [(hg o).2 (by omega), gup_n (fun z => by have := Ct_hen hF z.1; omega)]
    · replace c := i_nle.mp c
      have go : ∀ w0 : Int32, w0.toInt = gup (Ct sx) (RcH sx) (gt9 s0) v2.toInt.toNat v1.toInt.toNat v3.toInt.toNat → Ok P (fX12_findGroups_87 r29 rec v1 v2 v3 w0 v3 t lm) := by
        intro w0 hw
        unfold fX12_findGroups_87
        refine ok_gin (by omega) (by omega) ?_
        refine ok_lt (fun s2 f2 => ?_)
        rw [show v3.toNatClampNeg = v3.toInt.toNat by omega] at f2
        refine ok_lt (fun x e => ?_)
        replace e : x.toInt = v3.toInt + 1 := by rw [e]; exact add_c 1 (by decide) (by omega) (by omega)
        refine hrec (v1, v2, x, s2, lm) ⟨rfl, rfl, by show 0 ≤ x.toInt; omega, by show x.toInt ≤ 12; omega, rfl, fun c h8 h9 => ?_, ⟨?_, fun a b ha hb => ?_⟩, fun o => ?_⟩ (show (13 - x.toInt).toNat < (13 - v3.toInt).toNat by omega)
        · show s2 c = sm c
          rw [f2, up2_n h9]; exact ht c h8 h9
        · show s2 1 = sm 1
          rw [f2, up2_n (by decide)]; exact hR.1
        · show RM s2 a b ↔ RcH sx a b
          have : RM s2 a b ↔ RM t a b := by unfold RM; rw [f2, up2_n (by decide)]
          rw [this]; exact hR.2 a b ha hb
        · show ((o : Int) < x.toInt → gt9 s2 o = _) ∧ (x.toInt ≤ (o : Int) → gt9 s2 o = _)
          by_cases w : o = v3.toInt.toNat
          · refine ⟨fun _ => ?_, fun z => by omega⟩
            rw [w]
            show (s2 9 v3.toInt.toNat).toInt = _
            rw [f2, up2_e]; exact hw
          · have eo : gt9 s2 o = gt9 t o := by unfold gt9; rw [f2, up2_o (Or.inr w)]
            rw [eo]
            exact ⟨fun z => (hg o).1 (by omega), fun z => (hg o).2 (by omega)⟩
      have g81 : ¬ (Ct sx v3.toInt.toNat ∧ RcH sx v3.toInt.toNat v2.toInt.toNat ∧ RcH sx v2.toInt.toNat v3.toInt.toNat) → Ok P (fX12_findGroups_81 r29 rec v1 v2 v3 v3 t lm) := fun z => by
        unfold fX12_findGroups_81
        refine ok_gin (by omega) (by omega) ?_
        refine go _ ?_
        rw [gup_n z, show v3.toNatClampNeg = v3.toInt.toNat by omega]
        exact (hg v3.toInt.toNat).2 (by omega)
      refine bnd3_of (cts_m hF sv hR.1 b0 (by omega)) ?_
      by_cases w3 : Ct sx v3.toInt.toNat
      · rw [if_pos w3, ite1]
        refine bnd3_of (isOne_is hR b0 (by omega) a0 a1) ?_
        by_cases o1 : RcH sx v3.toInt.toNat v2.toInt.toNat ∧ RcH sx v2.toInt.toNat v3.toInt.toNat
        · rw [if_pos o1, ite1]
          refine go v1 ?_
          rw [gup_p ⟨w3, o1⟩]; omega
        · rw [if_neg o1, ite0]
          exact g81 (fun z => o1 z.2)
      · rw [if_neg w3, ite0]
        exact g81 (fun z => w3 z.1)
  · refine ⟨rfl, rfl, by show 0 ≤ (0 : Int32).toInt; omega, by show (0 : Int32).toInt ≤ 12; omega, rfl, h0, hR, fun o => ⟨fun z => ?_, fun _ => rfl⟩⟩
    replace z : (o : Int) < (0 : Int32).toInt := z
    omega
set_option maxHeartbeats 4000000 in
theorem fg_29 {s0 : Sg} (hF : FEq sx (sm 1)) (sv : SV (sm 1)) (h0 : F89 sm s0) (hR : RO8 sx sm s0) (hg : ∀ o, o < 12 → gt9 s0 o = -1) : Ok (fun q => q.2.2 = lm ∧ F89 sm q.2.1 ∧ ∃ k g, GFin (Ct sx) (RcH sx) k g ∧ q.1.toInt = (k : Int) ∧ ∀ h, Ct sx h → (q.2.1 9 h).toInt = g h) (LX12_findGroups_29 ((0 : Int32), (0 : Int32), s0, lm)) := by
  have k0 : (0 : Int32).toInt = 0 := by decide
  have s12 := sv.2.1
  have agree : ∀ {g g' : Nat → Int} {h : Nat}, (∀ o, o < 12 → g o = g' o) → (Nx (Ct sx) (RcH sx) g h ↔ Nx (Ct sx) (RcH sx) g' h) := by
    intro g g' h e
    constructor
    · rintro ⟨a, b, c⟩
      exact ⟨a, by rw [← e h a.1]; exact b, fun o co go => c o co (by rw [e o co.1]; exact go)⟩
    · rintro ⟨a, b, c⟩
      exact ⟨a, by rw [e h a.1]; exact b, fun o co go => c o co (by rw [← e o co.1]; exact go)⟩
  unfold LX12_findGroups_29
  refine ok_loop (I := fun (q : Int32 × Int32 × Sg × Lg) => 0 ≤ q.1.toInt ∧ 0 ≤ q.2.1.toInt ∧ q.2.1.toInt ≤ 12 ∧ q.2.2.2 = lm ∧ F89 sm q.2.2.1 ∧ RO8 sx sm q.2.2.1 ∧ ∃ g, GSt (Ct sx) (RcH sx) q.1.toInt.toNat g ∧ (∀ o, o < 12 → gt9 q.2.2.1 o = g o) ∧ (∀ o : Nat, (o : Int) < q.2.1.toInt → ¬ Nx (Ct sx) (RcH sx) g o) ∧ cnp (fun h => Ct sx h ∧ g h < 0) 12 + q.1.toInt.toNat ≤ 12) (m := fun (q : Int32 × Int32 × Sg × Lg) => (12 - q.1.toInt).toNat * 20 + (13 - q.2.1.toInt).toNat) _ ?_ ?_ _ ?_
  · intro q hq
    obtain ⟨a, b, -⟩ := hq
    show (12 - q.1.toInt).toNat * 20 + (13 - q.2.1.toInt).toNat < 10000
    omega
  · intro rec q hq hrec
    obtain ⟨v1, v2, t, l⟩ := q
    replace hq : 0 ≤ v1.toInt ∧ 0 ≤ v2.toInt ∧ v2.toInt ≤ 12 ∧ l = lm ∧ F89 sm t ∧ RO8 sx sm t ∧ ∃ g, GSt (Ct sx) (RcH sx) v1.toInt.toNat g ∧ (∀ o, o < 12 → gt9 t o = g o) ∧ (∀ o : Nat, (o : Int) < v2.toInt → ¬ Nx (Ct sx) (RcH sx) g o) ∧ cnp (fun h => Ct sx h ∧ g h < 0) 12 + v1.toInt.toNat ≤ 12 := hq
    obtain ⟨n0, b0, b1, e3, ht, hR, g, gs, ge, gn, gc⟩ := hq
    rw [e3]
    show Ok _ (fX12_findGroups_29 rec v1 v2 t lm)
    unfold fX12_findGroups_29
    refine bnd3_of hens_is ?_
    rw [hR.1]
    refine ok_ite (fun c => ?_) (fun c => ?_)
    · replace c := i_le.mp c
      refine ok_some ⟨rfl, ht, v1.toInt.toNat, g, ⟨gs, fun h nx => ?_⟩, by show v1.toInt = _; omega, fun h hc => ge h hc.1⟩
      exact gn h (by have := Ct_hen hF nx.1; omega) nx
    · replace c := i_nle.mp c
      refine ok_bnd3 (m_isNext (l := lm) hF sv hR b0 (by omega)) (fun y t' l' h' => ?_)
      obtain ⟨g1, g2⟩ := h'
      obtain ⟨z1, z2⟩ := Prod.mk.inj (show (t', l') = (t, lm) from g1)
      rw [z1, z2]
      rcases g2 with ⟨y1, y2⟩ | ⟨y1, y2⟩
      · replace y1 : y = 1 := y1
        rw [y1, ite1]
        have nx := (agree ge).mp y2
        have pk : Pk (Ct sx) (RcH sx) g v2.toInt.toNat := ⟨nx, fun h' hh => gn h' (by omega)⟩
        have lt := cnp_lt (p := fun h => Ct sx h ∧ gup (Ct sx) (RcH sx) g v2.toInt.toNat v1.toInt.toNat h < 0) (q := fun h => Ct sx h ∧ g h < 0) (i := v2.toInt.toNat) (fun z => by
          have y := z.2
          rw [gup_p ⟨nx.1, rc_rf _, rc_rf _⟩] at y
          omega) ⟨nx.1, nx.2.1⟩ 12 nx.1.1 (fun j _ z => ⟨z.1, by
            by_cases w : Ct sx j ∧ RcH sx j v2.toInt.toNat ∧ RcH sx v2.toInt.toNat j
            · have y := z.2
              rw [gup_p w] at y
              omega
            · have y := z.2
              rw [gup_n w] at y
              exact y⟩)
        refine fg_47 hF sv ht hR n0 (by omega) b0 (by omega) (fun x t2 ex ht2 hR2 hg2 => ?_)
        refine hrec (x, (0 : Int32), t2, lm) ⟨by show 0 ≤ x.toInt; omega, by show 0 ≤ (0 : Int32).toInt; omega, by show (0 : Int32).toInt ≤ 12; omega, rfl, ht2, hR2, gup (Ct sx) (RcH sx) g v2.toInt.toNat v1.toInt.toNat, ?_, fun o ho => ?_, fun o ho => ?_, ?_⟩ ?_
        · show GSt (Ct sx) (RcH sx) x.toInt.toNat _
          rw [show x.toInt.toNat = v1.toInt.toNat + 1 by omega]
          exact ⟨g, v2.toInt.toNat, gs, pk, rfl⟩
        · show gt9 t2 o = _
          rw [hg2 o]
          by_cases w : Ct sx o ∧ RcH sx o v2.toInt.toNat ∧ RcH sx v2.toInt.toNat o
          · rw [gup_p w, gup_p w]
          · rw [gup_n w, gup_n w]; exact ge o ho
        · replace ho : (o : Int) < (0 : Int32).toInt := ho
          omega
        · show cnp _ 12 + x.toInt.toNat ≤ 12
          omega
        · show (12 - x.toInt).toNat * 20 + (13 - (0 : Int32).toInt).toNat < (12 - v1.toInt).toNat * 20 + (13 - v2.toInt).toNat
          omega
      · replace y1 : y = 0 := y1
        rw [y1, ite0]
        unfold fX12_findGroups_99
        refine ok_lt (fun x e => ?_)
        replace e : x.toInt = v2.toInt + 1 := by rw [e]; exact add_c 1 (by decide) (by omega) (by omega)
        refine hrec (v1, x, t, lm) ⟨n0, by show 0 ≤ x.toInt; omega, by show x.toInt ≤ 12; omega, rfl, ht, hR, g, gs, ge, fun o ho => ?_, gc⟩ (show (12 - v1.toInt).toNat * 20 + (13 - x.toInt).toNat < (12 - v1.toInt).toNat * 20 + (13 - v2.toInt).toNat by omega)
        replace ho : (o : Int) < x.toInt := ho
        by_cases w : o = v2.toInt.toNat
        · rw [w]; exact fun z => y2 ((agree ge).mpr z)
        · exact gn o (by omega)
  · refine ⟨by show 0 ≤ (0 : Int32).toInt; omega, by show 0 ≤ (0 : Int32).toInt; omega, by show (0 : Int32).toInt ≤ 12; omega, rfl, h0, hR, fun _ => -1, ?_, hg, fun o ho => ?_, ?_⟩
    · show GSt (Ct sx) (RcH sx) (0 : Int32).toInt.toNat _
      rw [k0]; rfl
    · replace ho : (o : Int) < (0 : Int32).toInt := ho
      omega
    · show cnp _ 12 + (0 : Int32).toInt.toNat ≤ 12
      have := cnp_bd (p := fun h => Ct sx h ∧ (-1 : Int) < 0) 12
      rw [k0]
      show cnp (fun h => Ct sx h ∧ (-1 : Int) < 0) 12 + 0 ≤ 12
      omega
set_option maxHeartbeats 4000000 in
theorem m_groups (hF : FEq sx (sm 1)) (sv : SV (sm 1)) : Ok (fun q => q.2.2 = lm ∧ F89 sm q.2.1 ∧ ∃ k g, GFin (Ct sx) (RcH sx) k g ∧ q.1.toInt = (k : Int) ∧ ∀ h, Ct sx h → (q.2.1 9 h).toInt = g h) (fX12_findGroups sm lm) := by
  have k0 : (0 : Int32).toInt = 0 := by decide
  have k12 : (12 : Int32).toInt = 12 := by decide
  unfold fX12_findGroups
  refine ok_bnd2 (m_reach hF sv) (fun s1 l1 h1 => ?_)
  obtain ⟨g1, g2, g3⟩ := h1
  replace g1 : l1 = lm := g1
  replace g2 : F8 sm s1 := g2
  replace g3 : ∀ a b, a < 12 → b < 12 → (RM s1 a b ↔ RcH sx a b) := g3
  rw [g1]
  unfold LX12_findGroups_6
  refine ok_loop (I := fun (q : Int32 × Sg × Lg) => 0 ≤ q.1.toInt ∧ q.1.toInt ≤ 12 ∧ q.2.2 = lm ∧ (∀ c, c ≠ 9 → q.2.1 c = s1 c) ∧ ∀ o : Nat, (o : Int) < q.1.toInt → gt9 q.2.1 o = -1) (m := fun (q : Int32 × Sg × Lg) => (13 - q.1.toInt).toNat) _ ?_ ?_ _ ?_
  · intro q hq
    have := hq.1
    show (13 - q.1.toInt).toNat < 10000
    omega
  · intro rec q hq hrec
    obtain ⟨v1, t, l⟩ := q
    replace hq : 0 ≤ v1.toInt ∧ v1.toInt ≤ 12 ∧ l = lm ∧ (∀ c, c ≠ 9 → t c = s1 c) ∧ ∀ o : Nat, (o : Int) < v1.toInt → gt9 t o = -1 := hq
    obtain ⟨b0, b1, e3, ht, hg⟩ := hq
    rw [e3]
    show Ok _ (fX12_findGroups_6 rec v1 t lm)
    unfold fX12_findGroups_6
    have hc1 := cl_i b0
    refine ok_ite (fun c => ?_) (fun c => ?_)
    · replace c := i_le.mp c
      refine fg_29 hF sv (fun c h8 h9 => by rw [ht c h9]; exact g2 c h8) ⟨by rw [ht 1 (by decide)]; exact g2 1 (by decide), fun a b ha hb => ?_⟩ (fun o ho => hg o (by omega))
      have : RM t a b ↔ RM s1 a b := by unfold RM; rw [ht 8 (by decide)]
      rw [this]; exact g3 a b ha hb
    · replace c := i_nle.mp c
      refine ok_gin (by omega) (by omega) ?_
      refine ok_lt (fun s3 f3 => ?_)
      rw [show v1.toNatClampNeg = v1.toInt.toNat by omega] at f3
      refine ok_lt (fun x e => ?_)
      replace e : x.toInt = v1.toInt + 1 := by rw [e]; exact add_c 1 (by decide) (by omega) (by omega)
      refine hrec (x, s3, lm) ⟨by show 0 ≤ x.toInt; omega, by show x.toInt ≤ 12; omega, rfl, fun c h9 => by show s3 c = s1 c; rw [f3, up2_n h9]; exact ht c h9, fun o ho => ?_⟩ (show (13 - x.toInt).toNat < (13 - v1.toInt).toNat by omega)
      replace ho : (o : Int) < x.toInt := ho
      show (s3 9 o).toInt = -1
      by_cases w : o = v1.toInt.toNat
      · rw [w, f3, up2_e]; decide
      · rw [f3, up2_o (Or.inr w)]; exact hg o (by omega)
  · refine ⟨by show 0 ≤ (0 : Int32).toInt; omega, by show (0 : Int32).toInt ≤ 12; omega, rfl, fun _ _ => rfl, fun o ho => ?_⟩
    replace ho : (o : Int) < (0 : Int32).toInt := ho
    omega
end
/-! groups, groupOf -/
theorem val_groups {K : Sg → Sg → Lg → Prop} {n : Nat} {sx sm sx' sm' : Sg} {lm lm' : Lg} {r r' : Int64} (h : Rel K n sx sm lm) (hJ : JC sx) (hG : GK sx) (e1 : fX11_groups sx = some (r, sx')) (e2 : fX12_groups sm lm = some (r', sm', lm')) : r = r' ∧ GK sx' := by
  obtain ⟨hI, hM, hF, -⟩ := h
  unfold fX11_groups at e1
  obtain ⟨s1, c1, d1⟩ := p_bnd1 e1
  unfold fX12_groups at e2
  obtain ⟨y, s2, l2, c2, d2⟩ := p_bnd3 e2
  obtain ⟨⟨k, g, g1, g2, g3⟩, gk, mc, fr⟩ := ok_at (c_settle hI hJ hG) c1
  obtain ⟨-, -, k', g', u1, u2, u3⟩ := ok_at (m_groups (sx := sx) (lm := lm) hF.1 hM.2.2) c2
  rw [Ct_cg (s := sx) (by rw [fr 1 (by omega)]) (fr 11 (by omega)) (fr 13 (by omega)), RcH_cg (s := sx) (by rw [fr 1 (by omega)]) (fr 11 (by omega)) (fr 13 (by omega)) (fr 15 (by omega))] at g1
  obtain ⟨t1, t2⟩ := GFin_un g1 u1
  replace u2 : y.toInt = (k' : Int) := u2
  cases d1
  cases d2
  refine ⟨?_, gk⟩
  have e72 : sx' 7 2 = y := Int32.toInt_inj.mp (by omega)
  rw [e72]
theorem val_groupOf {K : Sg → Sg → Lg → Prop} {n : Nat} {v : Int32} {sx sm sx' sm' : Sg} {lm lm' : Lg} {r r' : Int64} (h : Rel K n sx sm lm) (hJ : JC sx) (hG : GK sx) (e1 : fX11_groupOf v sx = some (r, sx')) (e2 : fX12_groupOf v sm lm = some (r', sm', lm')) : r = r' ∧ GK sx' := by
  obtain ⟨hI, hM, hF, -⟩ := h
  have t2 := rdC1_0 hI.1
  have sv := hM.2.2
  have eh : (sm 1 0).toInt = (sx 1 0).toInt := by rw [hF.1.1]
  unfold fX11_groupOf at e1
  unfold fX12_groupOf at e2
  by_cases z : 0 ≤ v.toInt ∧ v.toInt < (sx 1 0).toInt
  · rw [has1 z.1 z.2, bnd2_s, ite1, isc_b t2.2 z.1, bnd2_s] at e1
    rw [isHen1 sv z.1 (by omega), bnd3_s, ite1, cts_m hF.1 sv rfl z.1 (by omega), bnd3_s] at e2
    have hc := cl_i z.1
    have ev : v.toNatClampNeg = v.toInt.toNat := by omega
    rw [ev] at e1 e2
    by_cases w : Ct sx v.toInt.toNat
    · rw [if_pos w.2, ite1] at e1
      rw [if_pos w, ite1] at e2
      obtain ⟨s1, c1, d1⟩ := p_bnd1 e1
      obtain ⟨y, s2, l2, c2, d2⟩ := p_bnd3 e2
      obtain ⟨⟨k, g, g1, g2, g3⟩, gk, mc, fr⟩ := ok_at (c_settle hI hJ hG) c1
      obtain ⟨-, -, k', g', u1, u2, u3⟩ := ok_at (m_groups (sx := sx) (lm := lm) hF.1 hM.2.2) c2
      have ec := Ct_cg (s := sx) (r := s1) (by rw [fr 1 (by omega)]) (fr 11 (by omega)) (fr 13 (by omega))
      rw [ec, RcH_cg (s := sx) (by rw [fr 1 (by omega)]) (fr 11 (by omega)) (fr 13 (by omega)) (fr 15 (by omega))] at g1
      obtain ⟨q1, q2⟩ := GFin_un g1 u1
      have w1 : Ct s1 v.toInt.toNat := by rw [ec]; exact w
      have a1 := g3 v.toInt.toNat w1
      have a2 : (s2 9 v.toInt.toNat).toInt = g' v.toInt.toNat := u3 v.toInt.toNat w
      replace d1 := p_gin d1
      rw [(mc.2.1 _ w1.1 w1.2).2.1] at d1
      replace d2 := p_gin d2
      obtain ⟨x, ex, d1⟩ := p_lt d1
      rw [ex] at d1
      replace d1 := p_gin d1
      have rl := rk_lt w1.2 w1.1
      have r12 := rk_le s1 12
      have o := ofn_n (j := rk s1 v.toInt.toNat) (by omega)
      have co := cl_i (i := Int32.ofNat (rk s1 v.toInt.toNat)) (by omega)
      rw [show (Int32.ofNat (rk s1 v.toInt.toNat)).toNatClampNeg = rk s1 v.toInt.toNat by omega] at d1
      cases d1
      cases d2
      refine ⟨?_, gk⟩
      have e35 : sx' 35 (rk sx' v.toInt.toNat) = sm' 9 v.toInt.toNat := Int32.toInt_inj.mp (by rw [a1, a2, q2])
      rw [e35]
    · rw [if_neg (fun y => w ⟨by omega, y⟩), ite0] at e1
      rw [if_neg w, ite0] at e2
      cases e1
      cases e2
      exact ⟨rfl, hG⟩
  · rw [has0 z, bnd2_s, ite0] at e1
    rw [isHen0 sv (by omega), bnd3_s, ite0] at e2
    cases e1
    cases e2
    exact ⟨rfl, hG⟩
/-! with the groups kept -/
def KG (sx sm : Sg) (lm : Lg) : Prop := JC sx ∧ NSH sm ∧ HD sx sm ∧ GK sx
theorem KGF : KF KG := fun sx sm sx' sm' lm hI hJ st same s3 s0 nn => by
  have h := KHdF sx sm sx' sm' lm hI ⟨hJ.1, hJ.2.1, hJ.2.2.1⟩ st same s3 s0 nn
  have e7 := same 7 (by decide) (by decide) (by omega) (by omega)
  have g := hJ.2.2.2.1
  refine ⟨h.1, h.2.1, h.2.2, by rw [e7]; omega, fun z => ?_⟩
  rw [e7] at z
  have := congrArg Int32.toInt z
  omega
theorem kg0 : KG sgC0 sgM0 lg0 := by
  have a : (sgC0 7 1).toInt = -1 := by decide
  have b : (sgC0 1 1).toInt = 0 := by decide
  exact ⟨khd0.1, khd0.2.1, khd0.2.2, by omega, fun z => by have := congrArg Int32.toInt z; omega⟩
theorem gk_l {M : List Nat} {sx sx' : Sg} {r : Int64} (hG : GK sx) (h : PLC M sx (r, sx')) (hM : ∀ k ∈ M, ¬ (k = 1 ∨ k = 7 ∨ k = 11 ∨ k = 13 ∨ k = 15 ∨ k = 35)) : GK sx' := by
  have f : ∀ k, (k = 1 ∨ k = 7 ∨ k = 11 ∨ k = 13 ∨ k = 15 ∨ k = 35) → sx' k = sx k := fun k hk => h.2 k (fun z => hM k z hk)
  exact GK_cg hG (f 1 (by omega)) (f 11 (by omega)) (f 13 (by omega)) (f 15 (by omega)) (f 7 (by omega)) (f 35 (by omega))
theorem gk_u {sx sx' : Sg} {r : Int64} (hG : GK sx) (h : PUlC sx (r, sx')) : GK sx' := by
  have e : sx' = sx := h
  rw [e]
  exact hG
/-! sure: the reference's tables with one held back till another stands -/
noncomputable def TT (p : Nat → Prop) (w : Nat → Int) (j : Nat) : Int := @ite Int (p j) (Classical.propDecidable _) (w j) 0
theorem TT_p {p : Nat → Prop} {w : Nat → Int} {j : Nat} (h : p j) : TT p w j = w j := if_pos h
theorem TT_n {p : Nat → Prop} {w : Nat → Int} {j : Nat} (h : ¬ p j) : TT p w j = 0 := if_neg h
theorem SF_s (p : Nat → Prop) (w : Nat → Int) (n : Nat) : SF p w (n + 1) = SF p w n + TT p w n := rfl
theorem SF_cmp {p q : Nat → Prop} {w v : Nat → Int} : ∀ n, (∀ j, j < n → TT p w j ≤ TT q v j) → SF p w n ≤ SF q v n ∧ (SF p w n = SF q v n ↔ ∀ j, j < n → TT p w j = TT q v j)
  | 0, _ => ⟨Int.le_refl _, fun _ j hj => absurd hj (Nat.not_lt_zero _), fun _ => rfl⟩
  | n + 1, h => by
    obtain ⟨i1, i2⟩ := SF_cmp n (fun j hj => h j (by omega))
    have hn := h n (by omega)
    rw [SF_s, SF_s]
    refine ⟨by omega, fun z => ?_, fun z => ?_⟩
    · have e : SF p w n = SF q v n := by omega
      intro j hj
      by_cases c : j = n
      · rw [c]; omega
      · exact i2.mp e j (by omega)
    · have := i2.mpr (fun j hj => z j (by omega))
      have := z n (by omega)
      omega
theorem SF_nn {p : Nat → Prop} {w : Nat → Int} : ∀ n, (∀ j, j < n → p j → 0 ≤ w j) → 0 ≤ SF p w n
  | 0, _ => Int.le_refl _
  | n + 1, h => by
    have ih := SF_nn n (fun j hj => h j (by omega))
    by_cases c : p n
    · rw [SF_p c]; have := h n (by omega) c; omega
    · rw [SF_n c]; exact ih
theorem SF_pos {p : Nat → Prop} {w : Nat → Int} {i : Nat} : ∀ n, (∀ j, j < n → p j → 0 ≤ w j) → i < n → p i → 0 < w i → 0 < SF p w n
  | 0, _, hi, _, _ => absurd hi (Nat.not_lt_zero _)
  | n + 1, h, hi, hp, hw => by
    by_cases e : i = n
    · rw [e] at hp hw
      rw [SF_p hp]
      have := SF_nn n (fun j hj => h j (by omega))
      omega
    · have ih := SF_pos n (fun j hj => h j (by omega)) (by omega) hp hw
      by_cases c : p n
      · rw [SF_p c]; have := h n (by omega) c; omega
      · rw [SF_n c]; exact ih
theorem bit_z {X u : Nat} (hX : X ≤ 4095) (hu : u < 31) : (((Int32.ofNat X) >>> (Int32.ofNat u &&& 31)) &&& (1 : Int32)) = 0 ↔ X.testBit u = false := by
  have b := bit_x hX hu
  have ox := ofn_x hX
  have ou := ofn_x (X := u) (by omega)
  have sh := shr_is (a := Int32.ofNat X) (v := Int32.ofNat u) (by omega) (by omega)
  have nn : 0 ≤ ((Int32.ofNat X) >>> (Int32.ofNat u &&& 31)).toInt := by
    rw [sh, ox]
    exact Int.ediv_nonneg (Int.natCast_nonneg _) (Int.natCast_nonneg _)
  have an := and_n (b := (1 : Int32)) nn (by decide)
  have e1 : (1 : Int32).toInt.toNat = 1 := by decide
  have k1 : (1 : Int32).toInt = 1 := by decide
  have k0 : (0 : Int32).toInt = 0 := by decide
  rw [e1, Nat.and_one_is_mod] at an
  constructor
  · intro z
    cases hb : X.testBit u
    · rfl
    · have := b.mpr hb
      rw [z] at this
      exact absurd this (by decide)
  · intro z
    have h1 : ¬ ((Int32.ofNat X >>> (Int32.ofNat u &&& 31)) &&& (1 : Int32)) = 1 := fun y => by rw [b.mp y] at z; cases z
    rw [i_eq, k1] at h1
    rw [i_eq, k0]
    omega
theorem mcn_held {s s2 : Sg} {h X u a b : Nat} (e1 : s2 1 = s 1) (e7 : s2 0 7 = s 0 7) (h9 : s 0 9 = -1) (e8 : s2 0 8 = Int32.ofNat a) (e9 : s2 0 9 = Int32.ofNat b) (ha : a < 12) (hb : b < 12) (hX : X ≤ 4095) (hh : h < 12) : MCn s2 h X u ↔ (MCn s h X u ∧ ¬ (h = b ∧ X.testBit a = false)) := by
  have o := ofn_n hh
  have ob := ofn_n hb
  have bz := bit_z (X := X) (u := a) hX (by omega)
  have ne : ¬ (Int32.ofNat h = s 0 9 ∧ ((Int32.ofNat X >>> ((s 0 8) &&& 31)) &&& (1 : Int32)) = 0) := fun z => by
    have := congrArg Int32.toInt z.1
    rw [h9, o] at this
    have km : (-1 : Int32).toInt = -1 := by decide
    omega
  have eb : Int32.ofNat h = Int32.ofNat b ↔ h = b := ⟨fun z => by have := congrArg Int32.toInt z; omega, fun z => by rw [z]⟩
  unfold MCn mc
  rw [e1, e7, e8, e9]
  by_cases c1 : ((Int32.ofNat X >>> (Int32.ofNat h &&& 31)) &&& (1 : Int32)) = (1 : Int32)
  · rw [if_pos c1, if_pos c1]
    exact ⟨fun z => absurd rfl z, fun z => absurd rfl z.1⟩
  · rw [if_neg c1, if_neg c1]
    by_cases c2 : cb (s 1) (Int32.ofNat h) = true
    · rw [if_pos c2, if_pos c2, if_neg ne]
      by_cases c3 : h = b ∧ X.testBit a = false
      · rw [if_pos ⟨eb.mpr c3.1, bz.mpr c3.2⟩]
        exact ⟨fun z => absurd rfl z, fun z => absurd c3 z.2⟩
      · rw [if_neg (fun z => c3 ⟨eb.mp z.1, bz.mp z.2⟩)]
        exact ⟨fun z => ⟨z, c3⟩, fun z => z.1⟩
    · rw [if_neg c2, if_neg c2]
      exact ⟨fun z => absurd rfl z, fun z => absurd rfl z.1⟩
/-- a best way on has a before b -/
def PHi (s : Sg) (l : Lg) (a b X u : Nat) : Prop := ∀ P : Nat → Nat → Prop, (∀ X u, BBn s l X u a → P X u) → (∀ X u h, h < 12 → BBn s l X u h → h ≠ b → P (X ||| 2 ^ h) h → P X u) → P X u
theorem PHi.now {s : Sg} {l : Lg} {a b : Nat} (X u : Nat) (h : BBn s l X u a) : PHi s l a b X u := fun _ n _ => n X u h
theorem PHi.later {s : Sg} {l : Lg} {a b : Nat} (X u h : Nat) (h1 : h < 12) (h2 : BBn s l X u h) (h3 : h ≠ b) (h4 : PHi s l a b (X ||| 2 ^ h) h) : PHi s l a b X u := fun P n t => t X u h h1 h2 h3 (h4 P n t)
theorem PHi.ind {s : Sg} {l : Lg} {a b : Nat} {motive : (X u : Nat) → PHi s l a b X u → Prop} (now : ∀ (X u : Nat) (h : BBn s l X u a), motive X u (PHi.now X u h)) (later : ∀ (X u h : Nat) (h1 : h < 12) (h2 : BBn s l X u h) (h3 : h ≠ b) (h4 : PHi s l a b (X ||| 2 ^ h) h), motive (X ||| 2 ^ h) h h4 → motive X u (PHi.later X u h h1 h2 h3 h4)) {X u : Nat} (t : PHi s l a b X u) : motive X u t := by
  have z : ∃ k : PHi s l a b X u, motive X u k := t (fun X u => ∃ k : PHi s l a b X u, motive X u k) (fun X u h => ⟨PHi.now X u h, now X u h⟩) (fun X u h h1 h2 h3 k => Exists.elim k (fun h4 m => ⟨PHi.later X u h h1 h2 h3 h4, later X u h h1 h2 h3 h4 m⟩))
  obtain ⟨_, m⟩ := z
  exact m
theorem PHi_iff {s : Sg} {l : Lg} {a b X u : Nat} : PHi s l a b X u ↔ (BBn s l X u a ∨ ∃ h, h < 12 ∧ BBn s l X u h ∧ h ≠ b ∧ PHi s l a b (X ||| 2 ^ h) h) := by
  constructor
  · intro z
    induction z using PHi.ind with
    | now _ _ h => exact Or.inl h
    | later _ _ h h1 h2 h3 h4 _ => exact Or.inr ⟨h, h1, h2, h3, h4⟩
  · rintro (z | ⟨h, h1, h2, h3, h4⟩)
    · exact PHi.now _ _ z
    · exact PHi.later _ _ h h1 h2 h3 h4
section
variable {s : Sg} {l : Lg} {A : Nat}
theorem W_pos (sv : SV (s 1)) (hA : A = (ctg (s 1) (s 1 0).toInt.toNat).toInt.toNat) (hR : ∀ X u, vn A X u → RN s l A X u) : ∀ N X u, 4096 - X ≤ N → vn A X u → Lv l X u < 1000000000000000 → 0 < Wv l X u := by
  intro N
  induction N with
  | zero =>
    intro X u hN hv
    have := (vn_le' sv hA hv).1
    omega
  | succ N ih =>
    intro X u hN hv hl
    have le := vn_le' sv hA hv
    obtain ⟨r1, r2, r3, r4⟩ := hR X u hv
    by_cases c : X = A
    · rw [(r3 c).2]; decide
    · obtain ⟨q1, q2, q3⟩ := r4 c
      clear r4
      rcases q2 with z | ⟨h, h1, h2, h3⟩
      · omega
      · have hb := (mcn_cb le.1 h1 h2).1
        have vx := vn_next hv (mcn_A sv hA le.1 h1 h2) h1
        have gt := or_gt hb
        have hl' : Lv l (X ||| 2 ^ h) h < 1000000000000000 := by
          by_cases w : Lv l (X ||| 2 ^ h) h < 1000000000000000
          · exact w
          · unfold nx at h3
            rw [if_neg w] at h3
            omega
        rw [q3]
        refine SF_pos 12 (fun j hj hp => ?_) h1 ⟨h2, by omega, h3.symm⟩ (ih _ h (by omega) vx hl')
        exact (hR _ j (vn_next hv (mcn_A sv hA le.1 hj hp.1) hj)).1
end
/-! sure: held back and free, side by side -/
section
variable {s s2 : Sg} {l l2 : Lg} {A a b : Nat}
/-- both tables -/
def TW (s s2 : Sg) (l l2 : Lg) (A a b : Nat) : Prop := (SV (s 1)) ∧ (s2 1 = s 1) ∧ (A = (ctg (s 1) (s 1 0).toInt.toNat).toInt.toNat) ∧ (∀ X u, vn A X u → RN s l A X u) ∧ (∀ X u, vn A X u → RN s2 l2 A X u) ∧ (∀ h X u, X ≤ 4095 → h < 12 → (MCn s2 h X u ↔ (MCn s h X u ∧ ¬ (h = b ∧ X.testBit a = false)))) ∧ (a < 12) ∧ (b < 12) ∧ (A.testBit a = true) ∧ (A.testBit b = true) ∧ (a ≠ b)
theorem TW.sv (T : TW s s2 l l2 A a b) : SV (s 1) := by
  unfold TW at T
  exact T.1
theorem TW.e1 (T : TW s s2 l l2 A a b) : s2 1 = s 1 := by
  unfold TW at T
  exact T.2.1
theorem TW.hA (T : TW s s2 l l2 A a b) : A = (ctg (s 1) (s 1 0).toInt.toNat).toInt.toNat := by
  unfold TW at T
  exact T.2.2.1
theorem TW.hR (T : TW s s2 l l2 A a b) : ∀ X u, vn A X u → RN s l A X u := by
  unfold TW at T
  exact T.2.2.2.1
theorem TW.hR2 (T : TW s s2 l l2 A a b) : ∀ X u, vn A X u → RN s2 l2 A X u := by
  unfold TW at T
  exact T.2.2.2.2.1
theorem TW.hm (T : TW s s2 l l2 A a b) : ∀ h X u, X ≤ 4095 → h < 12 → (MCn s2 h X u ↔ (MCn s h X u ∧ ¬ (h = b ∧ X.testBit a = false))) := by
  unfold TW at T
  exact T.2.2.2.2.2.1
theorem TW.ha (T : TW s s2 l l2 A a b) : a < 12 := by
  unfold TW at T
  exact T.2.2.2.2.2.2.1
theorem TW.hb (T : TW s s2 l l2 A a b) : b < 12 := by
  unfold TW at T
  exact T.2.2.2.2.2.2.2.1
theorem TW.aA (T : TW s s2 l l2 A a b) : A.testBit a = true := by
  unfold TW at T
  exact T.2.2.2.2.2.2.2.2.1
theorem TW.bA (T : TW s s2 l l2 A a b) : A.testBit b = true := by
  unfold TW at T
  exact T.2.2.2.2.2.2.2.2.2.1
theorem TW.ne (T : TW s s2 l l2 A a b) : a ≠ b := by
  unfold TW at T
  exact T.2.2.2.2.2.2.2.2.2.2
theorem RN_le {X u : Nat} (r : RN s l A X u) : Lv l X u ≤ 1000000000000000 := by
  have := r.2.1
  omega
theorem nx_le {h X : Nat} (sv : SV (s 1)) (hh : h < 12) (r : RN s l A (X ||| 2 ^ h) h) : nx s l h X ≤ 1000000000000000 := by
  have q := r.2.1
  have c := cm_bd (S := s 1) (h := h) (x := X) sv hh
  unfold nx
  split <;> omega
theorem nx_lt {h X : Nat} (h1 : nx s l h X < 1000000000000000) : Lv l (X ||| 2 ^ h) h < 1000000000000000 := by
  by_cases w : Lv l (X ||| 2 ^ h) h < 1000000000000000
  · exact w
  · unfold nx at h1
    rw [if_neg w] at h1
    omega
/-- where a stands already both are alike -/
theorem tw_in (T : TW s s2 l l2 A a b) : ∀ N X u, 4096 - X ≤ N → vn A X u → X.testBit a = true → Lv l2 X u = Lv l X u ∧ Wv l2 X u = Wv l X u := by
  intro N
  induction N with
  | zero =>
    intro X u hN hv
    have := (vn_le' T.sv T.hA hv).1
    omega
  | succ N ih =>
    intro X u hN hv hx
    have le := vn_le' T.sv T.hA hv
    have ra := T.hR X u hv
    have rb := T.hR2 X u hv
    have la := RN_le ra
    have lb := RN_le rb
    by_cases c : X = A
    · rw [(ra.2.2.1 c).1, (ra.2.2.1 c).2, (rb.2.2.1 c).1, (rb.2.2.1 c).2]
      exact ⟨rfl, rfl⟩
    · obtain ⟨p1, p2, p3⟩ := ra.2.2.2 c
      obtain ⟨q1, q2, q3⟩ := rb.2.2.2 c
      clear ra rb
      have mm : ∀ h, h < 12 → (MCn s2 h X u ↔ MCn s h X u) := fun h hh => by
        rw [T.hm h X u le.1 hh, hx]
        exact ⟨fun z => z.1, fun z => ⟨z, fun y => absurd y.2 (by decide)⟩⟩
      have nxe : ∀ h, h < 12 → MCn s h X u → nx s2 l2 h X = nx s l h X ∧ Wv l2 (X ||| 2 ^ h) h = Wv l (X ||| 2 ^ h) h := fun h hh hm => by
        have hb := (mcn_cb le.1 hh hm).1
        have gt := or_gt hb
        have i := ih (X ||| 2 ^ h) h (by clear p2 q2; omega) (vn_next hv (mcn_A T.sv T.hA le.1 hh hm) hh) (tb_ort hx)
        unfold nx
        rw [i.1, T.e1]
        exact ⟨rfl, i.2⟩
      have eL : Lv l2 X u = Lv l X u := by
        have l1 : Lv l2 X u ≤ Lv l X u := by
          rcases p2 with z | ⟨h, h1, h2, h3⟩
          · clear q2; omega
          · have := q1 h h1 ((mm h h1).mpr h2)
            rw [(nxe h h1 h2).1] at this
            clear q2; omega
        have l2' : Lv l X u ≤ Lv l2 X u := by
          rcases q2 with z | ⟨h, h1, h2, h3⟩
          · clear p2; omega
          · have h2' := (mm h h1).mp h2
            have := p1 h h1 h2'
            rw [(nxe h h1 h2').1] at h3
            clear p2; omega
        clear p2 q2
        omega
      refine ⟨eL, ?_⟩
      rw [p3, q3]
      refine SF_cg 12 (fun j hj => ?_) (fun j hj hp => (nxe j hj ((mm j hj).mp hp.1)).2)
      constructor
      · rintro ⟨z1, z2, z3⟩
        have z1' := (mm j hj).mp z1
        rw [(nxe j hj z1').1] at z2 z3
        exact ⟨z1', z2, by rw [z3, eL]⟩
      · rintro ⟨z1, z2, z3⟩
        have e := (nxe j hj z1).1
        exact ⟨(mm j hj).mpr z1, by rw [e]; exact z2, by rw [e, z3, eL]⟩
/-- where neither stands -/
def TWo (s s2 : Sg) (l l2 : Lg) (a b X u : Nat) : Prop := Lv l X u ≤ Lv l2 X u ∧ (Lv l X u < 1000000000000000 → (Lv l2 X u = Lv l X u ↔ PHi s l a b X u)) ∧ (Lv l X u < 1000000000000000 → PHi s l a b X u ∨ PHi s l b a X u) ∧ (Lv l X u < 1000000000000000 → Lv l2 X u = Lv l X u → Wv l2 X u ≤ Wv l X u ∧ (Wv l2 X u = Wv l X u ↔ ¬ PHi s l b a X u))
set_option maxHeartbeats 4000000 in
theorem tw_out (T : TW s s2 l l2 A a b) : ∀ N X u, 4096 - X ≤ N → vn A X u → X.testBit a = false → X.testBit b = false → TWo s s2 l l2 a b X u := by
  intro N
  induction N with
  | zero =>
    intro X u hN hv
    have := (vn_le' T.sv T.hA hv).1
    omega
  | succ N ih =>
    intro X u hN hv xa xb
    have le := vn_le' T.sv T.hA hv
    have ra := T.hR X u hv
    have rb := T.hR2 X u hv
    have la := RN_le ra
    have lb := RN_le rb
    have c : ¬ X = A := fun z => by rw [z, T.aA] at xa; cases xa
    obtain ⟨p1, p2, p3⟩ := ra.2.2.2 c
    obtain ⟨q1, q2, q3⟩ := rb.2.2.2 c
    clear ra rb
    have mm : ∀ h, h < 12 → (MCn s2 h X u ↔ (MCn s h X u ∧ h ≠ b)) := fun h hh => by
      rw [T.hm h X u le.1 hh, xa]
      exact ⟨fun z => ⟨z.1, fun y => z.2 ⟨y, rfl⟩⟩, fun z => ⟨z.1, fun y => z.2 y.1⟩⟩
    -- one step on
    have st : ∀ h, h < 12 → MCn s h X u → X < X ||| 2 ^ h ∧ vn A (X ||| 2 ^ h) h := fun h hh hm => ⟨or_gt (mcn_cb le.1 hh hm).1, vn_next hv (mcn_A T.sv T.hA le.1 hh hm) hh⟩
    have atA : ∀ h, h < 12 → h = a → MCn s h X u → nx s2 l2 h X = nx s l h X ∧ Wv l2 (X ||| 2 ^ h) h = Wv l (X ||| 2 ^ h) h := fun h hh ea hm => by
      obtain ⟨gt, vx⟩ := st h hh hm
      have i := tw_in T 4096 (X ||| 2 ^ h) h (by omega) vx (by rw [ea, tb_or, decide_eq_true rfl, Bool.or_true])
      unfold nx
      rw [i.1, T.e1]
      exact ⟨rfl, i.2⟩
    have atO : ∀ h, h < 12 → h ≠ a → h ≠ b → MCn s h X u → TWo s s2 l l2 a b (X ||| 2 ^ h) h := fun h hh ea eb hm => by
      obtain ⟨gt, vx⟩ := st h hh hm
      exact ih (X ||| 2 ^ h) h (by clear p2 q2; omega) vx (tb_orf xa (fun z => ea z.symm)) (tb_orf xb (fun z => eb z.symm))
    have stepf : ∀ h, h < 12 → MCn s h X u → h ≠ b → nx s l h X ≤ nx s2 l2 h X ∧ (nx s l h X < 1000000000000000 → (nx s2 l2 h X = nx s l h X ↔ (h = a ∨ PHi s l a b (X ||| 2 ^ h) h))) := fun h hh hm hb => by
      by_cases ea : h = a
      · have := (atA h hh ea hm).1
        exact ⟨by clear p2 q2; omega, fun _ => ⟨fun _ => Or.inl ea, fun _ => this⟩⟩
      · obtain ⟨o1, o2, o3, o4⟩ := atO h hh ea hb hm
        obtain ⟨gt, vx⟩ := st h hh hm
        have l1 := RN_le (T.hR _ h vx)
        have l2' := RN_le (T.hR2 _ h vx)
        have cb0 := cm_bd (S := s 1) (h := h) (x := X) T.sv hh
        have r2 := (T.hR2 _ h vx).2.1
        clear p2 q2
        unfold nx
        rw [T.e1]
        by_cases w : Lv l (X ||| 2 ^ h) h < 1000000000000000
        · rw [if_pos w]
          by_cases w2 : Lv l2 (X ||| 2 ^ h) h < 1000000000000000
          · rw [if_pos w2]
            refine ⟨by omega, fun _ => ⟨fun z => Or.inr ((o2 w).mp (by omega)), fun z => ?_⟩⟩
            rcases z with z | z
            · exact absurd z ea
            · have := (o2 w).mpr z; omega
          · rw [if_neg w2]
            have := (T.hR _ h vx).2.1
            refine ⟨by omega, fun _ => ⟨fun z => by omega, fun z => ?_⟩⟩
            rcases z with z | z
            · exact absurd z ea
            · have := (o2 w).mpr z; omega
        · rw [if_neg w]
          refine ⟨?_, fun z => by omega⟩
          rw [if_neg (by omega)]
          exact Int.le_refl _
    have i1 : Lv l X u ≤ Lv l2 X u := by
      rcases q2 with z | ⟨h, h1, h2, h3⟩
      · clear p2; omega
      · obtain ⟨m1, m2⟩ := (mm h h1).mp h2
        have := p1 h h1 m1
        have := (stepf h h1 m1 m2).1
        clear p2; omega
    have i2 : Lv l X u < 1000000000000000 → (Lv l2 X u = Lv l X u ↔ PHi s l a b X u) := by
      intro hl
      constructor
      · intro e
        rcases q2 with z | ⟨h, h1, h2, h3⟩
        · clear p2; omega
        · obtain ⟨m1, m2⟩ := (mm h h1).mp h2
          have k1 := p1 h h1 m1
          have k2 := stepf h h1 m1 m2
          clear p2
          have en : nx s l h X = Lv l X u := by have := k2.1; omega
          have bb : BBn s l X u h := ⟨m1, by omega, en⟩
          rcases (k2.2 (by omega)).mp (by omega) with z | z
          · rw [z] at bb; exact PHi.now _ _ bb
          · exact PHi.later _ _ h h1 bb m2 z
      · intro e
        rcases PHi_iff.mp e with z | ⟨h, h1, z, h3, h4⟩
        · have k := (atA a T.ha rfl z.1).1
          have := q1 a T.ha ((mm a T.ha).mpr ⟨z.1, T.ne⟩)
          have := z.2.2
          clear p2 q2; omega
        · have k := ((stepf h h1 z.1 h3).2 z.2.1).mpr (Or.inr h4)
          have := q1 h h1 ((mm h h1).mpr ⟨z.1, h3⟩)
          have := z.2.2
          clear p2 q2; omega
    have i3 : Lv l X u < 1000000000000000 → PHi s l a b X u ∨ PHi s l b a X u := by
      intro hl
      rcases p2 with z | ⟨h, h1, h2, h3⟩
      · clear q2; omega
      · have bb : BBn s l X u h := ⟨h2, by clear q2; omega, h3.symm⟩
        by_cases ea : h = a
        · rw [ea] at bb; exact Or.inl (PHi.now _ _ bb)
        · by_cases eb : h = b
          · rw [eb] at bb; exact Or.inr (PHi.now _ _ bb)
          · rcases (atO h h1 ea eb h2).2.2.1 (nx_lt bb.2.1) with z | z
            · exact Or.inl (PHi.later _ _ h h1 bb eb z)
            · exact Or.inr (PHi.later _ _ h h1 bb ea z)
    refine ⟨i1, i2, i3, fun hl e => ?_⟩
    rw [p3, q3]
    clear p2 q2
    -- term by term
    have term : ∀ h, h < 12 → TT (fun h => MCn s2 h X u ∧ nx s2 l2 h X < 1000000000000000 ∧ nx s2 l2 h X = Lv l2 X u) (fun h => Wv l2 (X ||| 2 ^ h) h) h ≤ TT (fun h => MCn s h X u ∧ nx s l h X < 1000000000000000 ∧ nx s l h X = Lv l X u) (fun h => Wv l (X ||| 2 ^ h) h) h ∧ (TT (fun h => MCn s2 h X u ∧ nx s2 l2 h X < 1000000000000000 ∧ nx s2 l2 h X = Lv l2 X u) (fun h => Wv l2 (X ||| 2 ^ h) h) h = TT (fun h => MCn s h X u ∧ nx s l h X < 1000000000000000 ∧ nx s l h X = Lv l X u) (fun h => Wv l (X ||| 2 ^ h) h) h ↔ ¬ (BBn s l X u h ∧ (h = b ∨ (h ≠ a ∧ PHi s l b a (X ||| 2 ^ h) h)))) := by
      intro h hh
      by_cases P2 : MCn s2 h X u ∧ nx s2 l2 h X < 1000000000000000 ∧ nx s2 l2 h X = Lv l2 X u
      · obtain ⟨m1, m2⟩ := (mm h hh).mp P2.1
        have k1 := p1 h hh m1
        have k2 := stepf h hh m1 m2
        have en : nx s l h X = Lv l X u := by have := k2.1; have := P2.2.2; omega
        have bb : BBn s l X u h := ⟨m1, by omega, en⟩
        rw [TT_p (p := fun h => MCn s2 h X u ∧ nx s2 l2 h X < 1000000000000000 ∧ nx s2 l2 h X = Lv l2 X u) P2, TT_p (p := fun h => MCn s h X u ∧ nx s l h X < 1000000000000000 ∧ nx s l h X = Lv l X u) bb]
        by_cases ea : h = a
        · rw [(atA h hh ea m1).2]
          exact ⟨Int.le_refl _, fun _ z => by
            rcases z.2 with y | y
            · exact m2 y
            · exact y.1 ea, fun _ => rfl⟩
        · obtain ⟨o1, o2, o3, o4⟩ := atO h hh ea m2 m1
          have lt := nx_lt bb.2.1
          have pab : PHi s l a b (X ||| 2 ^ h) h := by
            rcases (k2.2 (by omega)).mp (by rw [P2.2.2, en, e]) with z | z
            · exact absurd z ea
            · exact z
          have w := o4 lt ((o2 lt).mpr pab)
          refine ⟨w.1, ?_⟩
          show Wv l2 (X ||| 2 ^ h) h = Wv l (X ||| 2 ^ h) h ↔ _
          rw [w.2]
          constructor
          · intro z y
            rcases y.2 with y | y
            · exact m2 y
            · exact z y.2
          · intro z y
            exact z ⟨bb, Or.inr ⟨ea, y⟩⟩
      · rw [TT_n (p := fun h => MCn s2 h X u ∧ nx s2 l2 h X < 1000000000000000 ∧ nx s2 l2 h X = Lv l2 X u) P2]
        by_cases P : BBn s l X u h
        · rw [TT_p (p := fun h => MCn s h X u ∧ nx s l h X < 1000000000000000 ∧ nx s l h X = Lv l X u) P]
          obtain ⟨gt, vx⟩ := st h hh P.1
          have lt := nx_lt P.2.1
          have wp := W_pos T.sv T.hA T.hR 4096 (X ||| 2 ^ h) h (by omega) vx lt
          refine ⟨Int.le_of_lt wp, fun z => ?_, fun z => ?_⟩
          · replace z : 0 = Wv l (X ||| 2 ^ h) h := z
            omega
          · exfalso
            apply z
            refine ⟨P, ?_⟩
            by_cases eb : h = b
            · exact Or.inl eb
            · right
              have k2 := stepf h hh P.1 eb
              have nn : ¬ nx s2 l2 h X = nx s l h X := fun y => P2 ⟨(mm h hh).mpr ⟨P.1, eb⟩, by rw [y]; exact P.2.1, by rw [y, P.2.2, e]⟩
              have no := fun y => nn ((k2.2 P.2.1).mpr y)
              have ea : h ≠ a := fun y => no (Or.inl y)
              refine ⟨ea, ?_⟩
              rcases (atO h hh ea eb P.1).2.2.1 lt with y | y
              · exact absurd (Or.inr y) no
              · exact y
        · rw [TT_n (p := fun h => MCn s h X u ∧ nx s l h X < 1000000000000000 ∧ nx s l h X = Lv l X u) P]
          exact ⟨Int.le_refl _, fun _ z => P z.1, fun _ => rfl⟩
    obtain ⟨c1, c2⟩ := SF_cmp 12 (fun j hj => (term j hj).1)
    refine ⟨c1, ?_⟩
    rw [c2]
    constructor
    · intro z y
      rcases PHi_iff.mp y with w | ⟨h, h1, w, h3, h4⟩
      · exact (term b T.hb).2.mp (z b T.hb) ⟨w, Or.inl rfl⟩
      · exact (term h h1).2.mp (z h h1) ⟨w, Or.inr ⟨h3, h4⟩⟩
    · intro z j hj
      refine (term j hj).2.mpr (fun y => z ?_)
      rcases y.2 with w | w
      · rw [w] at y; exact PHi.now _ _ y.1
      · exact PHi.later _ _ j hj y.1 w.1 w.2
end
