/-! the reference's betters -/
theorem Hs_pm {s sm : Sg} {lm : Lg} (hI : IC0 s) (hM : MC s) (hMm : IM sm lm) (hF : FEq s (sm 1)) {x y : Nat} (hx : x < 12) (hy : y < 12) (cx : cnb s x = true) (cy : cnb s y = true) : Hs s x y = (sm 1 (49 + 12 * x + y)).toInt := by
  have r12 := rk_le s 12
  have la := rk_lt cx hx
  have lb := rk_lt cy hy
  have ha := ofn_n hx
  have hb' := ofn_n hy
  have ca := cl_i (i := Int32.ofNat x) (by omega)
  have cb' := cl_i (i := Int32.ofNat y) (by omega)
  have lt := (of_decide_eq_true cx).1
  have row := (hF.2 x lt).2.2.2.2 y hy
  unfold Hs pk
  rw [hM.2.2.2.1 _ _ la lb, (hM.2.1 _ hx cx).1, (hM.2.1 _ hy cy).1, show (Int32.ofNat x).toNatClampNeg = x by omega, show (Int32.ofNat y).toNatClampNeg = y by omega, ← row]
theorem wt_wp {s sm : Sg} {lm : Lg} {n : Nat} (hI : IC0 s) (hM : MC s) (hMm : IM sm lm) (hF : FEq s (sm 1)) (hw : Wh s (hp sm) n) : WT (Pm sm) n = WP (Hs s) (hp sm) n := by
  unfold WP
  refine WT_cg _ (fun i t a b => ?_)
  have xa := (hp_lt hMm i).1
  have xb := (hp_lt hMm t).1
  unfold Pm
  exact (Hs_pm hI hM hMm hF xa xb ((hw.2 _ xa).mpr ⟨i, a, rfl⟩) ((hw.2 _ xb).mpr ⟨t, by omega, rfl⟩)).symm
theorem law_m {s sm : Sg} {lm : Lg} {n : Nat} {y : Int32} (hI : IC0 s) (hM : IM sm lm) (hF : FEq s (sm 1)) (ns : ∀ h, ¬ Wt s h h) (hw : Wh s (hp sm) n) (b : FLm sm n y) : (y.toInt < 0 ∧ Law s (hp sm) n) ∨ (0 ≤ y.toInt ∧ ¬ Law s (hp sm) n) := by
  have bk := fun {i : Nat} (hi : i < n) => bad_kept hI hM hF ns hw hi
  rcases b with ⟨b1, b2⟩ | ⟨j, b1, b2, b3, b4⟩
  · refine Or.inl ⟨by rw [b1]; decide, fun i hi => ?_⟩
    exact Classical.byContradiction fun z => b2 i hi ((bk hi).mpr z)
  · refine Or.inr ⟨?_, fun z => (bk b1).mp b2 (z j b1)⟩
    have lj := hp_lt hM j
    have oj := ofn_n lj.1
    rw [b3, lj.2]; omega
theorem shN_s (p : Nat → Nat) (a b j : Nat) : shN p a b j = p (srcN a b j) := shN_src p a b j
theorem Wh_sh {s : Sg} {p : Nat → Nat} {n i k : Nat} (hw : Wh s p n) (hi : i < n) (hk : k < n) : Wh s (shN p i k) n := by
  refine ⟨fun a b ha hb e => ?_, fun h hh => ?_⟩
  · rw [shN_s, shN_s] at e
    exact srcN_inj (hw.1 _ _ (srcN_lt hi hk ha) (srcN_lt hi hk hb) e)
  · rw [hw.2 h hh]
    constructor
    · rintro ⟨a, ha, e⟩
      refine ⟨srcN k i a, srcN_lt hk hi ha, ?_⟩
      have := congrFun (sh_back (p := p) (i := i) (k := k)) a
      rw [shN_s] at this
      rw [this]; exact e
    · rintro ⟨a, ha, e⟩
      rw [shN_s] at e
      exact ⟨_, srcN_lt hi hk ha, e⟩
theorem srcN_back (i k j : Nat) : srcN i k (srcN k i j) = j := by
  have := congrFun (sh_back (p := id) (i := i) (k := k)) j
  rw [shN_s, shN_s] at this
  exact this
/-- the reference's hand with one moved -/
def ShM (sm : Sg) (i k : Nat) : Sg := fun c j => if c = 3 then sm 3 (srcN i k j) else sm c j
theorem ShM_n {sm : Sg} {i k c : Nat} (h : c ≠ 3) : ShM sm i k c = sm c := by
  funext j; unfold ShM; rw [if_neg h]
theorem ShM_3 {sm : Sg} {i k j : Nat} : ShM sm i k 3 j = sm 3 (srcN i k j) := by
  unfold ShM; rw [if_pos rfl]
theorem ShM_back {sm : Sg} {i k : Nat} : ShM (ShM sm i k) k i = sm := by
  funext c j
  by_cases h : c = 3
  · subst h; rw [ShM_3, ShM_3, srcN_back]
  · rw [ShM_n h, ShM_n h]
theorem hp_sh {sm : Sg} {i k : Nat} : hp (ShM sm i k) = shN (hp sm) i k := by
  funext j
  rw [shN_s]
  unfold hp
  rw [ShM_3]
theorem m_shift {sm : Sg} {lm : Lg} {v1 v2 : Int32} (hM : IM sm lm) (a0 : 0 ≤ v1.toInt) (a1 : v1.toInt ≤ 11) (b0 : 0 ≤ v2.toInt) (b1 : v2.toInt ≤ 11) : Ok (fun q => IM q.1 lm ∧ q = (ShM sm v1.toInt.toNat v2.toInt.toNat, lm)) (fX12_shift v1 v2 sm lm) := by
  refine ok_mono (ok_and (sX12_shift hM a0 a1 b0 b1) (m_sh a0 a1 b0 b1)) (fun q hq => ?_)
  obtain ⟨⟨g1, -⟩, g2, g3, g4⟩ := hq
  obtain ⟨s, l⟩ := q
  replace g2 : l = lm := g2
  replace g3 : ∀ c, c ≠ 3 → s c = sm c := g3
  replace g4 : ∀ j, s 3 j = SH (sm 3) v1.toInt.toNat v2.toInt.toNat j := g4
  subst g2
  refine ⟨g1, ?_⟩
  have : s = ShM sm v1.toInt.toNat v2.toInt.toNat := by
    funext c j
    by_cases h : c = 3
    · subst h; rw [ShM_3, g4 j, SH_src]
    · rw [ShM_n h, g3 c h]
  rw [this]
/-- the best of the moves that the reference has looked at -/
def BSM (s : Sg) (p : Nat → Nat) (n : Nat) (C : Nat → Nat → Prop) (v1 : Int64) (v3 v4 : Int32) : Prop := (v1.toInt = WP (Hs s) p n ∧ v3 = -1 ∧ ∀ i k, C i k → ¬ Mv s p n i k) ∨ ∃ i0 k0, C i0 k0 ∧ Mv s p n i0 k0 ∧ v1.toInt = WP (Hs s) p n + DW s p n i0 k0 ∧ v3 = Int32.ofNat i0 ∧ v4 = Int32.ofNat k0 ∧ ∀ i k, C i k → Mv s p n i k → LEx s p n i0 k0 i k
theorem BSM_cg {s : Sg} {p : Nat → Nat} {n : Nat} {C D : Nat → Nat → Prop} {v1 : Int64} {v3 v4 : Int32} (h : BSM s p n C v1 v3 v4) (e : ∀ i k, i < n → k < n → (C i k ↔ D i k)) : BSM s p n D v1 v3 v4 := by
  rcases h with ⟨a, b, c⟩ | ⟨i0, k0, a, b, c, d, f, g⟩
  · exact Or.inl ⟨a, b, fun i k hd hm => c i k ((e i k hm.1 hm.2.1).mpr hd) hm⟩
  · exact Or.inr ⟨i0, k0, (e i0 k0 b.1 b.2.1).mp a, b, c, d, f, fun i k hd hm => g i k ((e i k hm.1 hm.2.1).mpr hd) hm⟩
theorem LEx_tr {s : Sg} {p : Nat → Nat} {n a b c d e f : Nat} (h1 : LEx s p n a b c d) (h2 : LEx s p n c d e f) : LEx s p n a b e f := by
  unfold LEx at *
  omega
theorem LEx_rf {s : Sg} {p : Nat → Nat} {n a b : Nat} : LEx s p n a b a b := Or.inr ⟨rfl, Or.inr ⟨rfl, Nat.le_refl _⟩⟩
/-- one more move is looked at and not taken -/
theorem BSM_keep {s : Sg} {p : Nat → Nat} {n i0 k0 : Nat} {v1 : Int64} {v3 v4 : Int32} (hb : BSM s p n (fun i k => i < i0 ∨ (i = i0 ∧ k < k0)) v1 v3 v4) (h0 : v3 = -1 → ¬ Mv s p n i0 k0) (h1 : ∀ i1 k1, v3 = Int32.ofNat i1 → v4 = Int32.ofNat k1 → i1 < n → k1 < n → v1.toInt = WP (Hs s) p n + DW s p n i1 k1 → Mv s p n i0 k0 → LEx s p n i1 k1 i0 k0) : BSM s p n (fun i k => i < i0 ∨ (i = i0 ∧ k < k0 + 1)) v1 v3 v4 := by
  rcases hb with ⟨a1, a2, a3⟩ | ⟨i1, k1, a1, a2, a3, a4, a5, a6⟩
  · refine Or.inl ⟨a1, a2, fun i k hc hm => ?_⟩
    by_cases w : i = i0 ∧ k = k0
    · rw [w.1, w.2] at hm; exact h0 a2 hm
    · exact a3 i k (by omega) hm
  · refine Or.inr ⟨i1, k1, by omega, a2, a3, a4, a5, fun i k hc hm => ?_⟩
    by_cases w : i = i0 ∧ k = k0
    · rw [w.1, w.2] at hm ⊢
      exact h1 i1 k1 a4 a5 a2.1 a2.2.1 a3 hm
    · exact a6 i k (by omega) hm
/-- one more move is looked at and taken -/
theorem BSM_take {s : Sg} {p : Nat → Nat} {n i0 k0 : Nat} {v1 w1 : Int64} {v3 v4 w3 w4 : Int32} (hb : BSM s p n (fun i k => i < i0 ∨ (i = i0 ∧ k < k0)) v1 v3 v4) (hm0 : Mv s p n i0 k0) (e1 : w1.toInt = WP (Hs s) p n + DW s p n i0 k0) (e3 : w3 = Int32.ofNat i0) (e4 : w4 = Int32.ofNat k0) (h1 : ∀ i1 k1, v3 = Int32.ofNat i1 → v4 = Int32.ofNat k1 → i1 < n → k1 < n → v1.toInt = WP (Hs s) p n + DW s p n i1 k1 → LEx s p n i0 k0 i1 k1) : BSM s p n (fun i k => i < i0 ∨ (i = i0 ∧ k < k0 + 1)) w1 w3 w4 := by
  refine Or.inr ⟨i0, k0, by omega, hm0, e1, e3, e4, fun i k hc hm => ?_⟩
  by_cases w : i = i0 ∧ k = k0
  · rw [w.1, w.2]; exact LEx_rf
  · rcases hb with ⟨a1, a2, a3⟩ | ⟨i1, k1, a1, a2, a3, a4, a5, a6⟩
    · exact absurd hm (a3 i k (by omega))
    · exact LEx_tr (h1 i1 k1 a4 a5 a2.1 a2.2.1 a3) (a6 i k (by omega) hm)
/-! betters: the loops -/
set_option maxHeartbeats 4000000 in
theorem bt_25 {s sm : Sg} {lm : Lg} {n i0 : Nat} {v1 : Int64} {v3 v4 v5 : Int32} {P : Int32 × Sg × Lg → Prop} {r13 : (Int64 × Int32 × Int32 × Int32 × Sg × Lg) → Option (Int32 × Sg × Lg)} (hI : IC0 s) (hC : MC s) (hM : IM sm lm) (hF : FEq s (sm 1)) (ns : ∀ h, ¬ Wt s h h) (hw : Wh s (hp sm) n) (hn : n = (sm 0 4).toInt.toNat) (hi0 : i0 < n) (h5 : v5 = Int32.ofNat i0) (hb : BSM s (hp sm) n (fun i _ => i < i0) v1 v3 v4)
    (hr : ∀ (w1 : Int64) (w3 w4 x : Int32), x.toInt = (i0 : Int) + 1 → BSM s (hp sm) n (fun i _ => i < i0 + 1) w1 w3 w4 → Ok P (r13 (w1, w3, w4, x, sm, lm))) : Ok P (LX12_betters_25 r13 (v1, v3, v4, v5, (0 : Int32), sm, lm)) := by
  have k0 : (0 : Int32).toInt = 0 := by decide
  have km : (-1 : Int32).toInt = -1 := by decide
  have q4 := rdM0_4 hM
  have o5 := ofn_n (j := i0) (by omega)
  have hc5 := cl_i (i := v5) (by rw [h5]; omega)
  unfold LX12_betters_25
  refine ok_loop (I := fun (q : Int64 × Int32 × Int32 × Int32 × Int32 × Sg × Lg) => q.2.2.2.1 = v5 ∧ 0 ≤ q.2.2.2.2.1.toInt ∧ q.2.2.2.2.1.toInt ≤ (n : Int) ∧ q.2.2.2.2.2 = (sm, lm) ∧ BSM s (hp sm) n (fun i k => i < i0 ∨ (i = i0 ∧ k < q.2.2.2.2.1.toInt.toNat)) q.1 q.2.1 q.2.2.1) (m := fun (q : Int64 × Int32 × Int32 × Int32 × Int32 × Sg × Lg) => (13 - q.2.2.2.2.1.toInt).toNat) _ ?_ ?_ _ ?_
  · intro q hq
    have := hq.2.1
    show (13 - q.2.2.2.2.1.toInt).toNat < 10000
    omega
  · intro rec q hq hrec
    obtain ⟨u1, u3, u4, q5, v6, t, l⟩ := q
    replace hq : q5 = v5 ∧ 0 ≤ v6.toInt ∧ v6.toInt ≤ (n : Int) ∧ (t, l) = (sm, lm) ∧ BSM s (hp sm) n (fun i k => i < i0 ∨ (i = i0 ∧ k < v6.toInt.toNat)) u1 u3 u4 := hq
    obtain ⟨g1, q0, q1, g2, bs⟩ := hq
    obtain ⟨z1, z2⟩ := Prod.mk.inj g2
    rw [g1, z1, z2]
    show Ok P (fX12_betters_25 r13 rec u1 u3 u4 v5 v6 sm lm)
    unfold fX12_betters_25
    have hc6 := cl_i q0
    have go : ∀ (w1 : Int64) (w3 w4 : Int32), v6.toInt < (n : Int) → BSM s (hp sm) n (fun i k => i < i0 ∨ (i = i0 ∧ k < v6.toInt.toNat + 1)) w1 w3 w4 → Ok P (fX12_betters_160 r13 rec w1 w3 w4 v5 v6 sm lm) := by
      intro w1 w3 w4 b0 b1
      unfold fX12_betters_160
      refine ok_lt (fun x e => ?_)
      replace e : x.toInt = v6.toInt + 1 := by rw [e]; exact add_c 1 (by decide) (by omega) (by omega)
      refine hrec (w1, w3, w4, v5, x, sm, lm) ⟨rfl, by show 0 ≤ x.toInt; omega, by show x.toInt ≤ (n : Int); omega, rfl, ?_⟩ (show (13 - x.toInt).toNat < (13 - v6.toInt).toNat by omega)
      show BSM s (hp sm) n (fun i k => i < i0 ∨ (i = i0 ∧ k < x.toInt.toNat)) w1 w3 w4
      rw [show x.toInt.toNat = v6.toInt.toNat + 1 by omega]; exact b1
    refine ok_ite (fun c => ?_) (fun c => ?_)
    · replace c := i_le.mp c
      refine ok_lt (fun x e => ?_)
      replace e : x.toInt = (i0 : Int) + 1 := by rw [e, h5]; rw [add_c 1 (by decide) (by omega) (by omega), o5]
      refine hr u1 u3 u4 x e (BSM_cg bs (fun i k hi hk => ?_))
      show (i < i0 ∨ (i = i0 ∧ k < v6.toInt.toNat)) ↔ i < i0 + 1
      omega
    · replace c := i_nle.mp c
      have kn : v6.toInt.toNat < n := by omega
      have e5 : v5.toInt.toNat = i0 := by rw [h5, o5]; rfl
      refine ok_gin (by omega) (by omega) ?_
      refine ok_lt (fun x4 e4 => ?_)
      rw [show v5.toNatClampNeg = i0 by omega] at e4
      refine ok_bnd2 (m_shift (v1 := v5) (v2 := v6) hM (by omega) (by omega) q0 (by omega)) (fun s1 l1 h1 => ?_)
      obtain ⟨M1, h1⟩ := h1
      obtain ⟨y1, y2⟩ := Prod.mk.inj h1
      rw [e5] at y1
      replace M1 : IM s1 lm := M1
      rw [y1] at M1
      rw [y1, y2]
      generalize hk : v6.toInt.toNat = k at *
      have hw1 : Wh s (hp (ShM sm i0 k)) n := by rw [hp_sh]; exact Wh_sh hw hi0 kn
      have F1 : FEq s (ShM sm i0 k 1) := by rw [ShM_n (by decide)]; exact hF
      have n1 : n = (ShM sm i0 k 0 4).toInt.toNat := by rw [ShM_n (by decide)]; exact hn
      refine ok_bnd3 (m_weight M1) (fun y8 s2 l2 h2 => ?_)
      obtain ⟨h2, w8⟩ := h2
      obtain ⟨y1, y2⟩ := Prod.mk.inj h2
      rw [y1, y2]
      replace w8 : y8.toInt = WT (Pm (ShM sm i0 k)) (ShM sm i0 k 0 4).toInt.toNat := w8
      rw [← n1, wt_wp hI hC M1 F1 hw1, hp_sh] at w8
      replace w8 : y8.toInt = WP (Hs s) (hp sm) n + DW s (hp sm) n i0 k := by rw [w8]; unfold DW; omega
      refine ok_bnd3 (m_faulty M1) (fun y12 s3 l3 h3 => ?_)
      obtain ⟨h3, f3⟩ := h3
      obtain ⟨y1, y2⟩ := Prod.mk.inj h3
      rw [y1, y2]
      replace f3 : FLm (ShM sm i0 k) (ShM sm i0 k 0 4).toInt.toNat y12 := f3
      rw [← n1] at f3
      have lw := law_m hI M1 F1 ns hw1 f3
      rw [hp_sh] at lw
      have ne : ∀ {a b : Nat}, a < n → b < n → Int32.ofNat a = Int32.ofNat b → a = b := fun {a b} ha hb e => by
        have oa := ofn_n (j := a) (by omega)
        have ob := ofn_n (j := b) (by omega)
        have := congrArg Int32.toInt e
        omega
      have me : u3 = -1 → u3.toInt = -1 := fun z => by rw [z]; exact km
      -- what comes after the shift back
      have fin : ∀ (w0 : Int32), ((w0 = 1 ∧ Law s (shN (hp sm) i0 k) n) ∨ (w0 = 0 ∧ ¬ Law s (shN (hp sm) i0 k) n)) → Ok P (fX12_betters_69 r13 rec u1 u3 u4 v5 v6 x4 y8 w0 (ShM sm i0 k) lm) := by
        intro w0 hl
        unfold fX12_betters_69
        refine ok_bnd2 (m_shift (v1 := v6) (v2 := v5) M1 q0 (by omega) (by omega) (by omega)) (fun s4 l4 h4 => ?_)
        obtain ⟨-, h4⟩ := h4
        obtain ⟨y1, y2⟩ := Prod.mk.inj h4
        rw [e5, hk, ShM_back] at y1
        rw [y1, y2]
        -- the move is not lawful or not another
        have no : ¬ Mv s (hp sm) n i0 k → BSM s (hp sm) n (fun i j => i < i0 ∨ (i = i0 ∧ j < k + 1)) u1 u3 u4 := fun z => BSM_keep bs (fun _ => z) (fun _ _ _ _ _ _ _ hm => absurd hm z)
        have t124 : ∀ w1 : Int32, (w1 = 0 → y8.toInt ≥ u1.toInt → BSM s (hp sm) n (fun i j => i < i0 ∨ (i = i0 ∧ j < k + 1)) u1 u3 u4) → (w1 = 1 → ∀ i1 k1, u3 = Int32.ofNat i1 → u4 = Int32.ofNat k1 → i1 < n → k1 < n → u1.toInt = WP (Hs s) (hp sm) n + DW s (hp sm) n i1 k1 → LEx s (hp sm) n i0 k i1 k1) → (w1 = 0 ∨ (w1 = 1 ∧ u3 ≠ -1 ∧ y8.toInt = u1.toInt)) → Ok P (fX12_betters_124 r13 rec u1 u3 u4 v5 v6 y8 w0 w1 sm lm) := by
          intro w1 hA hB hw1
          unfold fX12_betters_124
          refine ok_ite (fun d => ?_) (fun d => ?_)
          · have ek : i0 = k := by
              have := congrArg Int32.toInt d
              omega
            refine go u1 u3 u4 (by omega) (no (fun hm => ?_))
            have := hm.2.2.1
            rw [← ek, DW_self] at this
            omega
          · refine ok_ite (fun f => ?_) (fun f => ?_)
            · refine go u1 u3 u4 (by omega) (no (fun hm => ?_))
              rcases hl with ⟨a, b⟩ | ⟨a, b⟩
              · rw [a] at f; exact absurd f (by decide)
              · exact b hm.2.2.2
            · have lf : Law s (shN (hp sm) i0 k) n := by
                rcases hl with ⟨a, b⟩ | ⟨a, b⟩
                · exact b
                · exact absurd a f
              have h6 : v6 = Int32.ofNat k := by rw [← hk]; exact of_i q0
              refine ok_ite (fun g => ?_) (fun g => ?_)
              · replace g := Int64.lt_iff_toInt_lt.mp g
                unfold fX12_betters_150
                refine go y8 v5 v6 (by omega) (BSM_take bs ⟨hi0, kn, ?_, lf⟩ w8 h5 h6 (fun i1 k1 b1 b2 b3 b4 b5 => Or.inl (by omega)))
                rcases bs with ⟨a1, -⟩ | ⟨i1, k1, -, a2, a3, -⟩
                · omega
                · have := a2.2.2.1; omega
              · replace g : ¬ y8.toInt < u1.toInt := fun z => g (Int64.lt_iff_toInt_lt.mpr z)
                refine ok_ite (fun f => ?_) (fun f => ?_)
                · exact go u1 u3 u4 (by omega) (hA f (by omega))
                · rcases hw1 with z | ⟨z, z2, z3⟩
                  · exact absurd z f
                  · unfold fX12_betters_150
                    refine go y8 v5 v6 (by omega) (BSM_take bs ⟨hi0, kn, ?_, lf⟩ w8 h5 h6 (hB z))
                    rcases bs with ⟨a1, a2, -⟩ | ⟨i1, k1, -, a2, a3, -⟩
                    · exact absurd a2 z2
                    · have := a2.2.2.1; omega
        have t123 : (y8.toInt ≥ u1.toInt → BSM s (hp sm) n (fun i j => i < i0 ∨ (i = i0 ∧ j < k + 1)) u1 u3 u4) → Ok P (fX12_betters_123 r13 rec u1 u3 u4 v5 v6 y8 w0 sm lm) := fun hA => by
          unfold fX12_betters_123
          exact t124 0 (fun _ => hA) (fun z => absurd z (by decide)) (Or.inl rfl)
        have t119 : u3 ≠ -1 → y8.toInt = u1.toInt → (∀ i1 k1, u3 = Int32.ofNat i1 → u4 = Int32.ofNat k1 → i1 < n → k1 < n → u1.toInt = WP (Hs s) (hp sm) n + DW s (hp sm) n i1 k1 → LEx s (hp sm) n i0 k i1 k1) → Ok P (fX12_betters_119 r13 rec u1 u3 u4 v5 v6 y8 w0 sm lm) := fun a b c => by
          unfold fX12_betters_119
          exact t124 1 (fun z => absurd z (by decide)) (fun _ => c) (Or.inr ⟨rfl, a, b⟩)
        refine ok_ite (fun d => ?_) (fun d => ?_)
        · replace d := i_lt.mp d
          rw [k0] at d
          refine t123 (fun hge => ?_)
          rcases bs with ⟨a1, a2, a3⟩ | ⟨i1, k1, a1, a2, a3, a4, a5, a6⟩
          · refine BSM_keep (Or.inl ⟨a1, a2, a3⟩) (fun _ hm => ?_) (fun i1 k1 b1 _ b3 _ _ _ => ?_)
            · have := hm.2.2.1; omega
            · have o1 := ofn_n (j := i1) (by omega)
              rw [b1] at d; omega
          · have o1 := ofn_n (j := i1) (by have := a2.1; omega)
            rw [a4] at d; omega
        · replace d := i_nlt.mp d
          rw [k0] at d
          rcases bs with ⟨a1, a2, a3⟩ | ⟨i1, k1, a1, a2, a3, a4, a5, a6⟩
          · rw [a2, km] at d; omega
          · have n1' := a2.1
            have n2' := a2.2.1
            have o1 := ofn_n (j := i1) (by omega)
            have o2 := ofn_n (j := k1) (by omega)
            have c3 := cl_i d
            have ec3 : u3.toNatClampNeg = i1 := by rw [a4] at c3 ⊢; omega
            have u3n : u3 ≠ -1 := fun z => by have := me z; omega
            have bs' : BSM s (hp sm) n (fun i j => i < i0 ∨ (i = i0 ∧ j < k)) u1 u3 u4 := Or.inr ⟨i1, k1, a1, a2, a3, a4, a5, a6⟩
            have l1 := hp_lt hM i1
            have l0 := hp_lt hM i0
            have p1 := ofn_n l1.1
            have p0 := ofn_n l0.1
            have x3 : (sm 3 i1).toInt = (hp sm i1 : Int) := by rw [l1.2]; omega
            have x0 : x4.toInt = (hp sm i0 : Int) := by rw [e4, l0.2]; omega
            have uq : ∀ a b, u3 = Int32.ofNat a → u4 = Int32.ofNat b → a < n → b < n → a = i1 ∧ b = k1 := fun a b e1 e2 h1 h2 => ⟨ne h1 n1' (by rw [← e1, a4]), ne h2 n2' (by rw [← e2, a5])⟩
            have e6 : u4.toInt = (k1 : Int) := by rw [a5]; omega
            refine ok_ite (fun f => ?_) (fun f => ?_)
            · have fe : y8.toInt = u1.toInt := by rw [f]
              refine ok_gin (by rw [a4]; omega) (by rw [a4]; omega) ?_
              rw [ec3]
              refine ok_ite (fun g => ?_) (fun g => ?_)
              · replace g := i_lt.mp g
                refine t119 u3n fe (fun a b e1 e2 h1 h2 _ => ?_)
                obtain ⟨ea, eb⟩ := uq a b e1 e2 h1 h2
                rw [ea, eb]
                exact Or.inr ⟨by omega, Or.inl (by omega)⟩
              · replace g := i_nlt.mp g
                refine ok_gin (by rw [a4]; omega) (by rw [a4]; omega) ?_
                refine ok_ite (fun h => ?_) (fun h => ?_)
                · have h' := congrArg Int32.toInt h
                  refine ok_ite (fun j => ?_) (fun j => ?_)
                  · replace j := i_le.mp j
                    refine t123 (fun _ => BSM_keep bs' (fun z => absurd z u3n) (fun a b e1 e2 h1 h2 _ _ => ?_))
                    obtain ⟨ea, eb⟩ := uq a b e1 e2 h1 h2
                    rw [ea, eb]
                    exact Or.inr ⟨by omega, Or.inr ⟨by omega, by omega⟩⟩
                  · replace j := i_nle.mp j
                    refine t119 u3n fe (fun a b e1 e2 h1 h2 _ => ?_)
                    obtain ⟨ea, eb⟩ := uq a b e1 e2 h1 h2
                    rw [ea, eb]
                    exact Or.inr ⟨by omega, Or.inr ⟨by omega, by omega⟩⟩
                · have h' : ¬ x4.toInt = (sm 3 i1).toInt := fun z => h (Int32.toInt_inj.mp z)
                  refine t123 (fun _ => BSM_keep bs' (fun z => absurd z u3n) (fun a b e1 e2 h1 h2 _ _ => ?_))
                  obtain ⟨ea, eb⟩ := uq a b e1 e2 h1 h2
                  rw [ea, eb]
                  exact Or.inr ⟨by omega, Or.inl (by omega)⟩
            · have fe : ¬ y8.toInt = u1.toInt := fun z => f (Int64.toInt_inj.mp z)
              refine t123 (fun hge => BSM_keep bs' (fun z => absurd z u3n) (fun a b e1 e2 h1 h2 e7 _ => Or.inl (by omega)))
      refine ok_ite (fun d => ?_) (fun d => ?_)
      · replace d := i_le.mp d
        rw [k0] at d
        refine fin 0 (Or.inr ⟨rfl, ?_⟩)
        rcases lw with ⟨a, -⟩ | ⟨-, b⟩
        · omega
        · exact b
      · replace d := i_nle.mp d
        rw [k0] at d
        refine fin 1 (Or.inl ⟨rfl, ?_⟩)
        rcases lw with ⟨-, b⟩ | ⟨a, -⟩
        · exact b
        · omega
  · refine ⟨rfl, by show 0 ≤ (0 : Int32).toInt; omega, by show (0 : Int32).toInt ≤ (n : Int); omega, rfl, BSM_cg hb (fun i k _ _ => ?_)⟩
    show i < i0 ↔ (i < i0 ∨ (i = i0 ∧ k < (0 : Int32).toInt.toNat))
    omega
/-- what betters answers and leaves -/
def IMPm (s sm : Sg) (lm : Lg) (n : Nat) (q : Int32 × Sg × Lg) : Prop := (q = (0, sm, lm) ∧ ∀ i k, ¬ Mv s (hp sm) n i k) ∨ (∃ i0 k0, Mv s (hp sm) n i0 k0 ∧ q = (1, ShM sm i0 k0, lm) ∧ ∀ i k, Mv s (hp sm) n i k → LEx s (hp sm) n i0 k0 i k)
set_option maxHeartbeats 4000000 in
theorem m_betters {s sm : Sg} {lm : Lg} {n : Nat} (hI : IC0 s) (hC : MC s) (hM : IM sm lm) (hF : FEq s (sm 1)) (ns : ∀ h, ¬ Wt s h h) (hw : Wh s (hp sm) n) (hn : n = (sm 0 4).toInt.toNat) : Ok (IMPm s sm lm n) (fX12_betters sm lm) := by
  have k0 : (0 : Int32).toInt = 0 := by decide
  have km : (-1 : Int32).toInt = -1 := by decide
  have q4 := rdM0_4 hM
  unfold fX12_betters
  refine ok_bnd3 (m_weight hM) (fun y1 s1 l1 h1 => ?_)
  obtain ⟨h1, w1⟩ := h1
  obtain ⟨z1, z2⟩ := Prod.mk.inj h1
  rw [z1, z2]
  replace w1 : y1.toInt = WT (Pm sm) (sm 0 4).toInt.toNat := w1
  rw [← hn, wt_wp hI hC hM hF hw] at w1
  unfold LX12_betters_13
  refine ok_loop (I := fun (q : Int64 × Int32 × Int32 × Int32 × Sg × Lg) => 0 ≤ q.2.2.2.1.toInt ∧ q.2.2.2.1.toInt ≤ (n : Int) ∧ q.2.2.2.2 = (sm, lm) ∧ BSM s (hp sm) n (fun i _ => i < q.2.2.2.1.toInt.toNat) q.1 q.2.1 q.2.2.1) (m := fun (q : Int64 × Int32 × Int32 × Int32 × Sg × Lg) => (13 - q.2.2.2.1.toInt).toNat) _ ?_ ?_ _ ?_
  · intro q hq
    have := hq.1
    show (13 - q.2.2.2.1.toInt).toNat < 10000
    omega
  · intro rec q hq hrec
    obtain ⟨u1, u3, u4, v5, t, l⟩ := q
    replace hq : 0 ≤ v5.toInt ∧ v5.toInt ≤ (n : Int) ∧ (t, l) = (sm, lm) ∧ BSM s (hp sm) n (fun i _ => i < v5.toInt.toNat) u1 u3 u4 := hq
    obtain ⟨q0, q1, g2, bs⟩ := hq
    obtain ⟨z1, z2⟩ := Prod.mk.inj g2
    rw [z1, z2]
    show Ok _ (fX12_betters_13 rec u1 u3 u4 v5 sm lm)
    unfold fX12_betters_13
    refine ok_ite (fun c => ?_) (fun c => ?_)
    · replace c := i_le.mp c
      have ev : v5.toInt.toNat = n := by omega
      rcases bs with ⟨a1, a2, a3⟩ | ⟨i1, k1, a1, a2, a3, a4, a5, a6⟩
      · rw [if_pos (by rw [a2]; decide)]
        unfold fX12_betters_183
        rw [if_pos (by rw [a2]; decide)]
        exact ok_some (Or.inl ⟨rfl, fun i k hm => a3 i k (by show i < _; have := hm.1; omega) hm⟩)
      · have n1 := a2.1
        have n2 := a2.2.1
        have o1 := ofn_n (j := i1) (by omega)
        have o2 := ofn_n (j := k1) (by omega)
        have e3 : u3.toInt = (i1 : Int) := by rw [a4]; omega
        have e4 : u4.toInt = (k1 : Int) := by rw [a5]; omega
        have nl : ¬ u3 < 0 := fun z => by have := i_lt.mp z; omega
        rw [if_neg nl]
        refine ok_bnd2 (m_shift (v1 := u3) (v2 := u4) hM (by omega) (by omega) (by omega) (by omega)) (fun s4 l4 h4 => ?_)
        obtain ⟨-, h4⟩ := h4
        obtain ⟨y1, y2⟩ := Prod.mk.inj h4
        rw [show u3.toInt.toNat = i1 by omega, show u4.toInt.toNat = k1 by omega] at y1
        rw [y1, y2]
        unfold fX12_betters_183
        rw [if_neg nl]
        exact ok_some (Or.inr ⟨i1, k1, a2, rfl, fun i k hm => a6 i k (by show i < _; have := hm.1; omega) hm⟩)
    · replace c := i_nle.mp c
      refine bt_25 (i0 := v5.toInt.toNat) hI hC hM hF ns hw hn (by omega) (of_i q0) bs (fun w1 w3 w4 x ex hb => ?_)
      refine hrec (w1, w3, w4, x, sm, lm) ⟨by show 0 ≤ x.toInt; omega, by show x.toInt ≤ (n : Int); omega, rfl, ?_⟩ (show (13 - x.toInt).toNat < (13 - v5.toInt).toNat by omega)
      show BSM s (hp sm) n (fun i _ => i < x.toInt.toNat) w1 w3 w4
      rw [show x.toInt.toNat = v5.toInt.toNat + 1 by omega]
      exact hb
  · refine ⟨by show 0 ≤ (0 : Int32).toInt; omega, by show (0 : Int32).toInt ≤ (n : Int); omega, rfl, Or.inl ⟨w1, rfl, fun i k hc => ?_⟩⟩
    have hc' : i < (0 : Int32).toInt.toNat := hc
    rw [k0] at hc'
    exact absurd hc' (Nat.not_lt_zero _)
/-! better -/
def Bst (s : Sg) (p : Nat → Nat) (n i k : Nat) : Prop := Mv s p n i k ∧ ∀ i' k', Mv s p n i' k' → LEx s p n i k i' k'
/-- m steps lead from p0 to p -/
def BtS (s : Sg) (n : Nat) (p0 : Nat → Nat) : Nat → (Nat → Nat) → Prop
  | 0, p => p = p0
  | m + 1, p => ∃ p1 i k, BtS s n p0 m p1 ∧ Bst s p1 n i k ∧ p = shN p1 i k
theorem BtS_wh {s : Sg} {n : Nat} {p0 : Nat → Nat} (hw : Wh s p0 n) : ∀ m p, BtS s n p0 m p → Wh s p n
  | 0, p, h => by rw [show p = p0 from h]; exact hw
  | m + 1, p, h => by
    obtain ⟨p1, i, k, a, b, c⟩ := h
    rw [c]
    exact Wh_sh (BtS_wh hw m p1 a) b.1.1 b.1.2.1
theorem Bst_un {s : Sg} {p : Nat → Nat} {n i k i' k' : Nat} (hw : Wh s p n) (a : Bst s p n i k) (b : Bst s p n i' k') : i = i' ∧ k = k' := by
  have h1 := a.2 i' k' b.1
  have h2 := b.2 i k a.1
  unfold LEx at h1 h2
  have e : p i = p i' := by omega
  exact ⟨hw.1 i i' a.1.1 b.1.1 e, by omega⟩
theorem BtS_un {s : Sg} {n : Nat} {p0 : Nat → Nat} (hw : Wh s p0 n) : ∀ m p p', BtS s n p0 m p → BtS s n p0 m p' → p = p'
  | 0, p, p', h, h' => by rw [show p = p0 from h, show p' = p0 from h']
  | m + 1, p, p', h, h' => by
    obtain ⟨p1, i, k, a, b, c⟩ := h
    obtain ⟨p2, i', k', a', b', c'⟩ := h'
    have e := BtS_un hw m p1 p2 a a'
    subst e
    obtain ⟨e1, e2⟩ := Bst_un (BtS_wh hw m p1 a) b b'
    rw [c, c', e1, e2]
theorem BtS_pre {s : Sg} {n : Nat} {p0 : Nat → Nat} {m : Nat} : ∀ m' p', BtS s n p0 m' p' → m < m' → ∃ p i k, BtS s n p0 m p ∧ Mv s p n i k
  | 0, p', _, h => absurd h (Nat.not_lt_zero _)
  | m' + 1, p', h', h => by
    obtain ⟨p2, i', k', a', b', c'⟩ := h'
    by_cases w : m = m'
    · rw [w]; exact ⟨p2, i', k', a', b'.1⟩
    · exact BtS_pre m' p2 a' (by omega)
def Fin' (s : Sg) (n : Nat) (p0 : Nat → Nat) (v m : Nat) (p : Nat → Nat) : Prop := BtS s n p0 m p ∧ m ≤ v ∧ (m = v ∨ ∀ i k, ¬ Mv s p n i k)
theorem Fin_un {s : Sg} {n : Nat} {p0 : Nat → Nat} {v m m' : Nat} {p p' : Nat → Nat} (hw : Wh s p0 n) (a : Fin' s n p0 v m p) (b : Fin' s n p0 v m' p') : m = m' ∧ p = p' := by
  have key : ∀ {m m' : Nat} {p p' : Nat → Nat}, Fin' s n p0 v m p → Fin' s n p0 v m' p' → ¬ m < m' := by
    intro m m' p p' a b h
    obtain ⟨q, i, k, c, d⟩ := BtS_pre m' p' b.1 h
    have e := BtS_un hw m p q a.1 c
    subst e
    rcases a.2.2 with z | z
    · have := b.2.1; omega
    · exact z i k d
  have e : m = m' := by
    have h1 := key a b
    have h2 := key b a
    omega
  subst e
  exact ⟨rfl, BtS_un hw m p p' a.1 b.1⟩
theorem Mv_cg {s r : Sg} (e : ∀ c, c ≠ 32 → c ≠ 33 → c ≠ 34 → r c = s c) (p : Nat → Nat) (n i k : Nat) : Mv r p n i k ↔ Mv s p n i k := by
  unfold Mv
  rw [DW_cg e, Law_cg e]
theorem LEx_cg {s r : Sg} (e : ∀ c, c ≠ 32 → c ≠ 33 → c ≠ 34 → r c = s c) (p : Nat → Nat) (n i k i' k' : Nat) : LEx r p n i k i' k' ↔ LEx s p n i k i' k' := by
  unfold LEx
  rw [DW_cg e, DW_cg e]
set_option maxHeartbeats 4000000 in
theorem c_write {s : Sg} {p : Nat → Nat} {n : Nat} (hM : MC s) (hl : LO s p n) : Ok (fun r => (r 5 0).toInt = (n : Int) ∧ ∀ i, i < n → r 31 i = Int32.ofNat (p i)) (fX7_writeTo s) := by
  have k0 : (0 : Int32).toInt = 0 := by decide
  have r12 := rk_le s 12
  have n12 : n ≤ 12 := by have := hl.1; omega
  have en : (s 3 2).toInt = (n : Int) := by rw [hM.1, hl.1]
  unfold fX7_writeTo
  refine ok_lt (fun s1 e1 => ?_)
  unfold LX7_writeTo_7
  refine ok_loop (I := fun (q : Int32 × Sg) => 0 ≤ q.1.toInt ∧ q.1.toInt ≤ (n : Int) ∧ (∀ c, c ≠ 5 → c ≠ 31 → q.2 c = s c) ∧ (q.2 5 0).toInt = q.1.toInt ∧ ∀ i : Nat, (i : Int) < q.1.toInt → q.2 31 i = Int32.ofNat (p i)) (m := fun (q : Int32 × Sg) => (13 - q.1.toInt).toNat) _ ?_ ?_ _ ?_
  · intro q hq
    have := hq.1
    show (13 - q.1.toInt).toNat < 10000
    omega
  · intro rec q hq hrec
    obtain ⟨v2, t⟩ := q
    replace hq : 0 ≤ v2.toInt ∧ v2.toInt ≤ (n : Int) ∧ (∀ c, c ≠ 5 → c ≠ 31 → t c = s c) ∧ (t 5 0).toInt = v2.toInt ∧ ∀ i : Nat, (i : Int) < v2.toInt → t 31 i = Int32.ofNat (p i) := hq
    obtain ⟨q0, q1, ft, l5, l31⟩ := hq
    show Ok _ (fX7_writeTo_7 rec v2 t)
    unfold fX7_writeTo_7
    rw [ft 3 (by decide) (by decide), ft 32 (by decide) (by decide), ft 17 (by decide) (by decide)]
    have hc := cl_i q0
    refine ok_ite (fun c => ?_) (fun c => ?_)
    · replace c := i_le.mp c
      rw [en] at c
      exact ok_some ⟨by show (t 5 0).toInt = _; omega, fun i hi => l31 i (by omega)⟩
    · replace c := i_nle.mp c
      rw [en] at c
      have li := hl.2 v2.toInt.toNat (by omega)
      have rl := rk_lt li.2.1 li.1
      have o := ofn_n (j := rk s (p v2.toInt.toNat)) (by omega)
      refine ok_gin (by omega) (by omega) ?_
      refine ok_lt (fun x3 e3 => ?_)
      rw [show v2.toNatClampNeg = v2.toInt.toNat by omega, li.2.2.1] at e3
      have c3 := cl_i (i := x3) (by rw [e3]; omega)
      have c4 : x3.toInt = (rk s (p v2.toInt.toNat) : Int) := by rw [e3]; exact o
      refine ok_gin (by rw [e3]; omega) (by rw [e3]; omega) ?_
      rw [show x3.toNatClampNeg = rk s (p v2.toInt.toNat) by omega, (hM.2.1 _ li.1 li.2.1).1]
      obtain ⟨r, a1, a2, a3, a4, -⟩ := append_is (v := Int32.ofNat (p v2.toInt.toNat)) (sg := t) (by omega) (by omega)
      rw [a1]
      show Ok _ (lt (v2 + 1) fun x7 => rec (x7, r))
      refine ok_lt (fun x e => ?_)
      replace e : x.toInt = v2.toInt + 1 := by rw [e]; exact add_c 1 (by decide) (by omega) (by omega)
      refine hrec (x, r) ⟨by show 0 ≤ x.toInt; omega, by show x.toInt ≤ (n : Int); omega, fun c h1 h2 => by show r c = s c; rw [a4 c h1 h2]; exact ft c h1 h2, by show (r 5 0).toInt = x.toInt; omega, fun i hi => ?_⟩ (show (13 - x.toInt).toNat < (13 - v2.toInt).toNat by omega)
      replace hi : (i : Int) < x.toInt := hi
      show r 31 i = _
      rw [a3 i]
      by_cases w : i = (t 5 0).toInt.toNat
      · rw [if_pos w, show v2.toInt.toNat = i by omega]
      · rw [if_neg w]; exact l31 i (by omega)
  · refine ⟨by show 0 ≤ (0 : Int32).toInt; omega, by show (0 : Int32).toInt ≤ (n : Int); omega, fun c h1 h2 => by show s1 c = s c; rw [e1, up2_n h1], by show (s1 5 0).toInt = (0 : Int32).toInt; rw [e1, up2_e], fun i hi => ?_⟩
    replace hi : (i : Int) < (0 : Int32).toInt := hi
    omega
set_option maxHeartbeats 4000000 in
theorem c_better {s : Sg} {p0 : Nat → Nat} {n : Nat} {v1 : Int32} (hI : IC s) (hM : MC s) (hl : LO s p0 n) (a0 : 1 ≤ v1.toInt) (a1 : v1.toInt ≤ 40) : Ok (fun q => ∃ m p, Fin' s n p0 v1.toInt.toNat m p ∧ q.1 = (Int32.ofNat m).toInt64 ∧ (q.2 5 0).toInt = (n : Int) ∧ ∀ i, i < n → q.2 31 i = Int32.ofNat (p i)) (LX11_better_35 (v1, (0 : Int32), s)) := by
  have k0 : (0 : Int32).toInt = 0 := by decide
  unfold LX11_better_35
  refine ok_loop (I := fun (q : Int32 × Int32 × Sg) => q.1 = v1 ∧ 0 ≤ q.2.1.toInt ∧ q.2.1.toInt ≤ v1.toInt ∧ IC q.2.2 ∧ (∀ c, c ≠ 32 → c ≠ 33 → c ≠ 34 → q.2.2 c = s c) ∧ ∃ p, BtS s n p0 q.2.1.toInt.toNat p ∧ LO q.2.2 p n) (m := fun (q : Int32 × Int32 × Sg) => (41 - q.2.1.toInt).toNat) _ ?_ ?_ _ ?_
  · intro q hq
    have := hq.2.1
    show (41 - q.2.1.toInt).toNat < 10000
    omega
  · intro rec q hq hrec
    obtain ⟨q1, v2, t⟩ := q
    replace hq : q1 = v1 ∧ 0 ≤ v2.toInt ∧ v2.toInt ≤ v1.toInt ∧ IC t ∧ (∀ c, c ≠ 32 → c ≠ 33 → c ≠ 34 → t c = s c) ∧ ∃ p, BtS s n p0 v2.toInt.toNat p ∧ LO t p n := hq
    obtain ⟨e1, b0, b1, it, ft, p, hs, lt'⟩ := hq
    rw [e1]
    show Ok _ (fX11_better_35 rec v1 v2 t)
    unfold fX11_better_35
    have mt : MC t := MC_cg hM (by rw [ft 1 (by decide) (by decide) (by decide)]) (by rw [ft 3 (by decide) (by decide) (by decide)]) (ft 11 (by decide) (by decide) (by decide)) (ft 12 (by decide) (by decide) (by decide)) (ft 13 (by decide) (by decide) (by decide)) (ft 15 (by decide) (by decide) (by decide)) (fun k a b => ft k (by omega) (by omega) (by omega))
    have fin : ∀ t' : Sg, MC t' → LO t' p n → (v2.toInt = v1.toInt ∨ ∀ i k, ¬ Mv s p n i k) → Ok (fun q => ∃ m p, Fin' s n p0 v1.toInt.toNat m p ∧ q.1 = (Int32.ofNat m).toInt64 ∧ (q.2 5 0).toInt = (n : Int) ∧ ∀ i, i < n → q.2 31 i = Int32.ofNat (p i)) (fX11_better_56 v2 t') := by
      intro t' m' l' hz
      unfold fX11_better_56
      refine ok_bnd1 (c_write m' l') (fun r hr => ?_)
      refine ok_some ⟨v2.toInt.toNat, p, ⟨hs, by omega, ?_⟩, ?_, hr.1, hr.2⟩
      · rcases hz with z | z
        · exact Or.inl (by omega)
        · exact Or.inr z
      · show v2.toInt64 = _
        rw [← of_i b0]
    refine ok_ite (fun c => ?_) (fun c => ?_)
    · replace c := i_le.mp c
      exact fin t mt lt' (Or.inl (by omega))
    · replace c := i_nle.mp c
      refine ok_bnd2 (c_improve it mt lt') (fun y t2 h2 => ?_)
      obtain ⟨i2, f2, alt⟩ := h2
      replace i2 : IC t2 := i2
      replace f2 : ∀ c, c ≠ 32 → c ≠ 33 → c ≠ 34 → t2 c = t c := f2
      have f3 : ∀ c, c ≠ 32 → c ≠ 33 → c ≠ 34 → t2 c = s c := fun c x y z => by rw [f2 c x y z]; exact ft c x y z
      have m2 : MC t2 := MC_cg hM (by rw [f3 1 (by decide) (by decide) (by decide)]) (by rw [f3 3 (by decide) (by decide) (by decide)]) (f3 11 (by decide) (by decide) (by decide)) (f3 12 (by decide) (by decide) (by decide)) (f3 13 (by decide) (by decide) (by decide)) (f3 15 (by decide) (by decide) (by decide)) (fun k a b => f3 k (by omega) (by omega) (by omega))
      rcases alt with ⟨z1, z2, z3⟩ | ⟨z1, i0, k0', z2, z3, z4⟩
      · replace z1 : y = 0 := z1
        rw [z1, ite0]
        exact fin t2 m2 z2 (Or.inr (fun i k hm => z3 i k ((Mv_cg ft p n i k).mpr hm)))
      · replace z1 : y = 1 := z1
        rw [z1, ite1]
        refine ok_lt (fun x e => ?_)
        replace e : x.toInt = v2.toInt + 1 := by rw [e]; exact add_c 1 (by decide) (by omega) (by omega)
        refine hrec (v1, x, t2) ⟨rfl, by show 0 ≤ x.toInt; omega, by show x.toInt ≤ v1.toInt; omega, i2, f3, shN p i0 k0', ?_, z3⟩ (show (41 - x.toInt).toNat < (41 - v2.toInt).toNat by omega)
        show BtS s n p0 x.toInt.toNat _
        rw [show x.toInt.toNat = v2.toInt.toNat + 1 by omega]
        exact ⟨p, i0, k0', hs, ⟨(Mv_cg ft p n i0 k0').mp z2, fun i k hm => (LEx_cg ft p n i0 k0' i k).mp (z4 i k ((Mv_cg ft p n i k).mpr hm))⟩, rfl⟩
  · exact ⟨rfl, by show 0 ≤ (0 : Int32).toInt; omega, by show (0 : Int32).toInt ≤ v1.toInt; omega, hI, fun _ _ _ _ => rfl, p0, rfl, hl⟩
theorem IM_sh {sm : Sg} {lm : Lg} {i k n : Nat} (hM : IM sm lm) (hn : n = (sm 0 4).toInt.toNat) (hi : i < n) (hk : k < n) : IM (ShM sm i k) lm := by
  have q4 := rdM0_4 hM
  have oi := ofn_n (j := i) (by omega)
  have ok := ofn_n (j := k) (by omega)
  obtain ⟨q, a, b, c⟩ := m_shift (v1 := Int32.ofNat i) (v2 := Int32.ofNat k) hM (by omega) (by omega) (by omega) (by omega)
  rw [c, show (Int32.ofNat i).toInt.toNat = i by omega, show (Int32.ofNat k).toInt.toNat = k by omega] at b
  exact b
set_option maxHeartbeats 4000000 in
theorem m_better {s sm : Sg} {lm : Lg} {n : Nat} {v1 : Int32} (hI : IC0 s) (hC : MC s) (hM : IM sm lm) (hF : FEq s (sm 1)) (ns : ∀ h, ¬ Wt s h h) (hw : Wh s (hp sm) n) (hn : n = (sm 0 4).toInt.toNat) (a0 : 1 ≤ v1.toInt) (a1 : v1.toInt ≤ 40) : Ok (fun q => ∃ m p, Fin' s n (hp sm) v1.toInt.toNat m p ∧ q.1 = (Int32.ofNat m).toInt64 ∧ q.2.1 0 4 = sm 0 4 ∧ hp q.2.1 = p ∧ IM q.2.1 lm) (LX12_better_29 (v1, (0 : Int32), sm, lm)) := by
  have k0 : (0 : Int32).toInt = 0 := by decide
  unfold LX12_better_29
  refine ok_loop (I := fun (q : Int32 × Int32 × Sg × Lg) => q.1 = v1 ∧ 0 ≤ q.2.1.toInt ∧ q.2.1.toInt ≤ v1.toInt ∧ IM q.2.2.1 lm ∧ q.2.2.2 = lm ∧ (∀ c, c ≠ 3 → q.2.2.1 c = sm c) ∧ BtS s n (hp sm) q.2.1.toInt.toNat (hp q.2.2.1)) (m := fun (q : Int32 × Int32 × Sg × Lg) => (41 - q.2.1.toInt).toNat) _ ?_ ?_ _ ?_
  · intro q hq
    have := hq.2.1
    show (41 - q.2.1.toInt).toNat < 10000
    omega
  · intro rec q hq hrec
    obtain ⟨q1, v2, t, l⟩ := q
    replace hq : q1 = v1 ∧ 0 ≤ v2.toInt ∧ v2.toInt ≤ v1.toInt ∧ IM t lm ∧ l = lm ∧ (∀ c, c ≠ 3 → t c = sm c) ∧ BtS s n (hp sm) v2.toInt.toNat (hp t) := hq
    obtain ⟨e1, b0, b1, it, el, ft, hs⟩ := hq
    rw [e1, el]
    show Ok _ (fX12_better_29 rec v1 v2 t lm)
    unfold fX12_better_29
    have fin : (v2.toInt = v1.toInt ∨ ∀ i k, ¬ Mv s (hp t) n i k) → Ok (fun (q : Int64 × Sg × Lg) => ∃ m p, Fin' s n (hp sm) v1.toInt.toNat m p ∧ q.1 = (Int32.ofNat m).toInt64 ∧ q.2.1 0 4 = sm 0 4 ∧ hp q.2.1 = p ∧ IM q.2.1 lm) (some (v2.toInt64, t, lm)) := by
      intro hz
      refine ok_some ⟨v2.toInt.toNat, hp t, ⟨hs, by omega, ?_⟩, ?_, by show t 0 4 = _; rw [ft 0 (by decide)], rfl, it⟩
      · rcases hz with z | z
        · exact Or.inl (by omega)
        · exact Or.inr z
      · show v2.toInt64 = _
        rw [← of_i b0]
    refine ok_ite (fun c => ?_) (fun c => ?_)
    · replace c := i_le.mp c
      exact fin (Or.inl (by omega))
    · replace c := i_nle.mp c
      have nt : n = (t 0 4).toInt.toNat := by rw [ft 0 (by decide)]; exact hn
      refine ok_bnd3 (m_betters (s := s) (n := n) hI hC it (by rw [ft 1 (by decide)]; exact hF) ns (BtS_wh hw _ _ hs) nt) (fun y t2 l2 h2 => ?_)
      rcases h2 with ⟨z1, z2⟩ | ⟨i0, k0', z1, z2, z3⟩
      · obtain ⟨y1, y2⟩ := Prod.mk.inj z1
        obtain ⟨y3, y4⟩ := Prod.mk.inj y2
        rw [y1, y3, y4, ite0]
        exact fin (Or.inr z2)
      · obtain ⟨y1, y2⟩ := Prod.mk.inj z2
        obtain ⟨y3, y4⟩ := Prod.mk.inj y2
        rw [y1, y3, y4, ite1]
        refine ok_lt (fun x e => ?_)
        replace e : x.toInt = v2.toInt + 1 := by rw [e]; exact add_c 1 (by decide) (by omega) (by omega)
        refine hrec (v1, x, ShM t i0 k0', lm) ⟨rfl, by show 0 ≤ x.toInt; omega, by show x.toInt ≤ v1.toInt; omega, IM_sh it nt z1.1 z1.2.1, rfl, fun c hc => by show ShM t i0 k0' c = sm c; rw [ShM_n hc]; exact ft c hc, ?_⟩ (show (41 - x.toInt).toNat < (41 - v2.toInt).toNat by omega)
        show BtS s n (hp sm) x.toInt.toNat (hp (ShM t i0 k0'))
        rw [show x.toInt.toNat = v2.toInt.toNat + 1 by omega, hp_sh]
        exact ⟨hp t, i0, k0', hs, ⟨z1, z3⟩, rfl⟩
  · exact ⟨rfl, by show 0 ≤ (0 : Int32).toInt; omega, by show (0 : Int32).toInt ≤ v1.toInt; omega, hM, rfl, fun _ _ => rfl, rfl⟩
theorem isIn_m {v : Int32} {sg : Sg} {lg : Lg} : fX12_isIn v.toInt64 (1 : Int64) (40 : Int64) sg lg = some (if 1 ≤ v.toInt ∧ v.toInt ≤ 40 then 1 else 0, sg, lg) := by
  have j1 : (1 : Int64).toInt = 1 := by decide
  have j40 : (40 : Int64).toInt = 40 := by decide
  unfold fX12_isIn
  by_cases c : v.toInt64 < (1 : Int64)
  · rw [if_pos c, if_neg (fun z => by rw [j_lt, Int32.toInt_toInt64] at c; omega)]
  · rw [if_neg c]
    by_cases d : (40 : Int64) < v.toInt64
    · rw [if_pos d, if_neg (fun z => by rw [j_lt, Int32.toInt_toInt64] at d; omega)]
    · rw [if_neg d, if_pos ⟨by rw [j_lt, Int32.toInt_toInt64] at c; omega, by rw [j_lt, Int32.toInt_toInt64] at d; omega⟩]
set_option maxHeartbeats 4000000 in
theorem val_better {K : Sg → Sg → Lg → Prop} {n : Nat} {v : Int32} {sx sm sx' sm' : Sg} {lm lm' : Lg} {r r' : Int64} (h : Rel K n sx sm lm) (hJ : JC sx) (hN : NSH sm) (hd : HD sx sm) (e1 : fX11_better v sx = some (r, sx')) (e2 : fX12_better v sm lm = some (r', sm', lm')) : r = r' ∧ HD sx' sm' := by
  have hM := h.2.1
  have k1 : (1 : Int32).toInt = 1 := by decide
  have k40 : (40 : Int32).toInt = 40 := by decide
  unfold fX11_better at e1
  unfold fX12_better at e2
  rw [isIn_m, bnd3_s] at e2
  by_cases c : 1 ≤ v.toInt ∧ v.toInt ≤ 40
  · have c1 : ¬ v < (1 : Int32) := fun z => by have := i_lt.mp z; omega
    have c2 : v ≤ (40 : Int32) := i_le.mpr (by omega)
    rw [if_neg c1, if_pos c2] at e1
    rw [if_pos c, ite1] at e2
    obtain ⟨y, s, d1, f1⟩ := p_bnd2 e1
    obtain ⟨y', s', l', d2, f2⟩ := p_bnd3 e2
    obtain ⟨z1, z2, i1, j1, m1, F1, hd1, fr, alt⟩ := read_both h hJ hd d1 d2
    rw [z1, z2] at f2
    rcases alt with ⟨a1, b1, w, lr⟩ | ⟨a1, b1⟩
    · rw [a1, ite1] at f1
      rw [b1, ite1] at f2
      have lo := lo_of i1.1 hM hd1 w lr
      have wh := LO_wh lo
      obtain ⟨m, p, g1, g2, g3, g4⟩ := ok_at (c_better i1 m1 lo c.1 c.2) f1
      obtain ⟨m', p', u1, u2, u3, u4, u5⟩ := ok_at (m_better i1.1 m1 hM F1 (ns_wt F1 hN) wh rfl c.1 c.2) f2
      obtain ⟨t1, t2⟩ := Fin_un wh g1 u1
      subst t1 t2
      replace g2 : r = (Int32.ofNat m).toInt64 := g2
      replace u2 : r' = (Int32.ofNat m).toInt64 := u2
      replace g3 : (sx' 5 0).toInt = ((sm 0 4).toInt.toNat : Int) := g3
      replace g4 : ∀ i, i < (sm 0 4).toInt.toNat → sx' 31 i = Int32.ofNat (p i) := g4
      replace u3 : sm' 0 4 = sm 0 4 := u3
      replace u4 : hp sm' = p := u4
      replace u5 : IM sm' lm := u5
      have q4 := rdM0_4 hM
      have whp := BtS_wh wh _ _ g1.1
      refine ⟨by rw [g2, u2], ⟨Int32.toInt_inj.mp (by rw [u3]; omega), fun i hi => ?_⟩, fun i j a b z => ?_⟩
      · rw [g4 i (by omega), (hp_lt u5 i).2, u4]
      · rw [u3] at b
        have e : p i = p j := by
          rw [← u4]; unfold hp; rw [z]
        have := whp.1 i j (by omega) (by omega) e
        omega
    · rw [a1, ite0] at f1
      rw [b1, ite0] at f2
      cases f1
      cases f2
      exact ⟨rfl, hd1⟩
  · rw [if_neg c, ite0] at e2
    cases e2
    by_cases c1 : v < (1 : Int32)
    · rw [if_pos c1] at e1
      cases e1
      exact ⟨rfl, hd⟩
    · have c2 : ¬ v ≤ (40 : Int32) := fun z => c ⟨by have := i_nlt.mp c1; omega, by have := i_le.mp z; omega⟩
      rw [if_neg c1, if_neg c2] at e1
      cases e1
      exact ⟨rfl, hd⟩
/-! best brings none twice -/
theorem ro_nd {sm : Sg} {lm : Lg} {A : Nat} : ∀ (lh : List Nat) (X u : Nat) (k : Int), X ≤ 4095 → RO sm lm A lh X u k → (∀ i, i < lh.length → lh.getD i 0 < 12 ∧ ¬ X.testBit (lh.getD i 0) = true) ∧ ∀ i j, i < j → j < lh.length → lh.getD i 0 ≠ lh.getD j 0
  | [], _, _, _, _, _ => ⟨fun i hi => absurd hi (Nat.not_lt_zero _), fun i j _ hj => absurd hj (Nat.not_lt_zero _)⟩
  | h :: l, X, u, k, hX, ro => by
    obtain ⟨⟨r1, r2, r3, r4, r5⟩, r6⟩ := ro
    have hX' : X ||| 2 ^ h ≤ 4095 := Nat.le_of_lt_succ (Nat.or_lt_two_pow (n := 12) (by omega) (Nat.pow_lt_pow_right (by decide) r2))
    obtain ⟨a, b⟩ := ro_nd l (X ||| 2 ^ h) h _ hX' r6
    have hn : ¬ X.testBit h = true := fun z => by have := (mcn_cb hX r2 r3.1).1; rw [z] at this; cases this
    constructor
    · intro i hi
      cases i with
      | zero => exact ⟨r2, hn⟩
      | succ i =>
        obtain ⟨c, d⟩ := a i (by simpa using hi)
        refine ⟨c, fun z => d ?_⟩
        have z' : X.testBit (l.getD i 0) = true := z
        rw [Nat.testBit_or, z', Bool.true_or]
    · intro i j hij hj
      cases j with
      | zero => exact absurd hij (Nat.not_lt_zero _)
      | succ j =>
        have hj' : j < l.length := by simpa using hj
        cases i with
        | zero =>
          intro z
          have z' : h = l.getD j 0 := z
          refine (a j hj').2 ?_
          rw [← z', Nat.testBit_or, Nat.testBit_two_pow_self, Bool.or_true]
        | succ i => exact b i j (by omega) hj'
theorem nd_best {sm sm' : Sg} {lm lm' : Lg} {v r' : Int64} (hM : IM sm lm) (e2 : fX12_best v sm lm = some (r', sm', lm')) (h : ND sm) : ND sm' := by
  by_cases v0 : 0 ≤ v.toInt
  · obtain ⟨s, l, A, m1, m2, m3, m4, m5, fm, alt⟩ := m_best hM.2.2 v0 e2
    rcases alt with ⟨a1, ⟨lh, ro, q1, q2⟩, q3⟩ | ⟨a1, a2, a3, a4⟩
    · replace q1 : (lh.length : Int) = (sm' 0 4).toInt := q1
      replace q2 : ∀ i, i < lh.length → sm' 3 i = Int32.ofNat (lh.getD i 0) := q2
      obtain ⟨c, d⟩ := ro_nd lh _ _ _ (by decide) ro
      intro i j hij hj z
      rw [q2 i (by omega), q2 j (by omega)] at z
      have oi := ofn_n (c i (by omega)).1
      have oj := ofn_n (c j (by omega)).1
      have := congrArg Int32.toInt z
      exact d i j hij (by omega) (by omega)
    · intro i j hij hj
      rw [a4, fm.2 4 (by decide) (by decide) (by decide)] at hj
      rw [a3, fm.1 3 (by decide)]
      exact h i j hij hj
  · unfold fX12_best at e2
    have j0 : (0 : Int64).toInt = 0 := by decide
    rw [if_neg (by rw [j_le]; omega)] at e2
    cases e2
    exact h
theorem hd_best {K : Sg → Sg → Lg → Prop} {n : Nat} {sx sm sx' sm' : Sg} {lm lm' : Lg} {v r r' : Int64} (h : Rel K n sx sm lm) (hJ : JC sx) (hN : NSH sm) (hd : HD sx sm) (e1 : fX11_best v sx = some (r, sx')) (e2 : fX12_best v sm lm = some (r', sm', lm')) : r = r' ∧ HD sx' sm' := by
  have a := val_best h hJ hN e1 e2
  exact ⟨a.1, a.2 hd.1, nd_best h.2.1 e2 hd.2⟩
/-! number: the class's walk along the row -/
noncomputable def NBc (sg : Sg) (q : Nat → Nat) : Nat → Nat → Nat → Int → Option Int
  | 0, _, _, a => some a
  | f + 1, i, x, a => @ite _ (BQ sg x (q i)) (Classical.propDecidable _) (NBc sg q f (i + 1) (x ||| 2 ^ (q i)) (a + PW sg x (q i))) none
theorem NBc_p {sg : Sg} {q : Nat → Nat} {f i x : Nat} {a : Int} (h : BQ sg x (q i)) : NBc sg q (f + 1) i x a = NBc sg q f (i + 1) (x ||| 2 ^ (q i)) (a + PW sg x (q i)) := by
  show @ite _ (BQ sg x (q i)) (Classical.propDecidable _) _ _ = _
  exact if_pos h
theorem NBc_n {sg : Sg} {q : Nat → Nat} {f i x : Nat} {a : Int} (h : ¬ BQ sg x (q i)) : NBc sg q (f + 1) i x a = none := by
  show @ite _ (BQ sg x (q i)) (Classical.propDecidable _) _ _ = _
  exact if_neg h
def ansN : Option Int → Int64
  | none => -2000000005
  | some a => Int64.ofInt a
theorem ofI_32 (y : Int32) : Int64.ofInt y.toInt = y.toInt64 := by
  rw [← Int32.toInt_toInt64, Int64.ofInt_toInt]
set_option maxHeartbeats 4000000 in
theorem nb_62 {sg : Sg} {x s : Nat} {a : Int} {v4 v5 O : Int32} {P : Int64 × Sg → Prop} {r19 : (Int64 × Int32 × Int32 × Sg) → Option (Int64 × Sg)} (hI : IC0 sg) (hl : LN sg) (a0 : 0 ≤ v4.toInt) (ex : x = v4.toInt.toNat) (a1 : x < 2 ^ (sg 3 2).toInt.toNat) (hs : s < (sg 3 2).toInt.toNat) (o0 : 0 ≤ O.toInt) (o1 : O.toInt ≤ 4095) (ob : ∀ j, O.toInt.toNat.testBit j = true ↔ BQ sg x j) (p0 : 0 ≤ v5.toInt) (p1 : v5.toInt ≤ 11)
    (hr : ∀ (x' p' : Int32), 0 ≤ x'.toInt → x'.toInt.toNat = x ||| 2 ^ s → p'.toInt = v5.toInt + 1 → Ok P (r19 (Int64.ofInt (a + PW sg x s), x', p', sg))) : Ok P (LX9_numberOf_c32_62 r19 (Int64.ofInt a, v4, v5, Int32.ofNat s, O, (0 : Int32), sg)) := by
  have k0 : (0 : Int32).toInt = 0 := by decide
  have k1 : (1 : Int32).toInt = 1 := by decide
  have hn := rdC3_2 hI
  have x4 := lt4096 a1 (by omega)
  have os := ofn_n (j := s) (by omega)
  unfold LX9_numberOf_c32_62
  refine ok_loop (I := fun (q : Int64 × Int32 × Int32 × Int32 × Int32 × Int32 × Sg) => q.2.1 = v4 ∧ q.2.2.1 = v5 ∧ q.2.2.2.1 = Int32.ofNat s ∧ q.2.2.2.2.1 = O ∧ 0 ≤ q.2.2.2.2.2.1.toInt ∧ q.2.2.2.2.2.1.toInt ≤ (s : Int) ∧ q.2.2.2.2.2.2 = sg ∧ q.1 = Int64.ofInt (a + PW sg x q.2.2.2.2.2.1.toInt.toNat)) (m := fun (q : Int64 × Int32 × Int32 × Int32 × Int32 × Int32 × Sg) => (13 - q.2.2.2.2.2.1.toInt).toNat) _ ?_ ?_ _ ?_
  · intro q hq
    have := hq.2.2.2.2.1
    show (13 - q.2.2.2.2.2.1.toInt).toNat < 10000
    omega
  · intro rec q hq hrec
    obtain ⟨k, q4, q5, q6, q7, v8, t⟩ := q
    replace hq : q4 = v4 ∧ q5 = v5 ∧ q6 = Int32.ofNat s ∧ q7 = O ∧ 0 ≤ v8.toInt ∧ v8.toInt ≤ (s : Int) ∧ t = sg ∧ k = Int64.ofInt (a + PW sg x v8.toInt.toNat) := hq
    obtain ⟨e1, e2, e3, e4, q0, q1, e5, e6⟩ := hq
    rw [e1, e2, e3, e4, e5, e6]
    show Ok P (fX9_numberOf_c32_62 r19 rec (Int64.ofInt (a + PW sg x v8.toInt.toNat)) v4 v5 (Int32.ofNat s) O v8 sg)
    unfold fX9_numberOf_c32_62
    have go : ∀ (k' : Int64), v8.toInt < (s : Int) → k' = Int64.ofInt (a + PW sg x (v8.toInt.toNat + 1)) → Ok P (fX9_numberOf_c32_95 r19 rec k' v4 v5 (Int32.ofNat s) O v8 sg) := by
      intro k' g0 g1
      unfold fX9_numberOf_c32_95
      refine ok_lt (fun y1 f1 => ?_)
      replace f1 : y1.toInt = v8.toInt + 1 := by rw [f1]; exact add_c 1 k1 (by omega) (by omega)
      refine hrec (k', v4, v5, Int32.ofNat s, O, y1, sg) ⟨rfl, rfl, rfl, rfl, by show 0 ≤ y1.toInt; omega, by show y1.toInt ≤ (s : Int); omega, rfl, ?_⟩ (show (13 - y1.toInt).toNat < (13 - v8.toInt).toNat by omega)
      show k' = Int64.ofInt (a + PW sg x y1.toInt.toNat)
      rw [show y1.toInt.toNat = v8.toInt.toNat + 1 by omega]; exact g1
    refine ok_ite (fun c => ?_) (fun c => ?_)
    · replace c := i_le.mp c
      have tn := tset_n (set := v4) (h := Int32.ofNat s) a0 (by omega) (by omega) (by omega)
      have ti := tset_i (set := v4) (h := Int32.ofNat s) a0 (by omega) (by omega) (by omega)
      refine ok_lt (fun x2 f2 => ?_)
      refine ok_lt (fun x3 f3 => ?_)
      replace f3 : x3.toInt = v5.toInt + 1 := by rw [f3]; exact add_c 1 k1 (by omega) (by omega)
      rw [← f2] at tn ti
      rw [← ex, os, Int.toNat_natCast] at tn
      rw [show v8.toInt.toNat = s by omega]
      exact hr x2 x3 ti.1 tn f3
    · replace c := i_nle.mp c
      rw [os] at c
      refine bnd2_of isIn_is ?_
      by_cases f : ((O >>> (v8 &&& 31)) &&& (1 : Int32)) = (1 : Int32)
      · rw [if_pos f, ite1]
        have bq := (ob _).mp ((bit_n o0 q0 (by omega)).mp f)
        have pp : PW sg x (v8.toInt.toNat + 1) = PW sg x v8.toInt.toNat + ws sg (x ||| 2 ^ v8.toInt.toNat) := SF_p bq
        have tn := tset_n (set := v4) (h := v8) a0 (by omega) q0 (by omega)
        have ti := tset_i (set := v4) (h := v8) a0 (by omega) q0 (by omega)
        rw [← ex] at tn
        have ol := or_lt a1 bq.1.1
        refine ok_lt (fun x8 e8 => ?_)
        rw [← e8] at tn ti
        have hc8 := cl_i ti.1
        have hl2 := hl.2
        refine ok_ginL (by omega) (by omega) ?_
        refine ok_lt (fun x11 e11 => ?_)
        refine go x11 c ?_
        have hw : Int64.ofInt (ws sg (x ||| 2 ^ v8.toInt.toNat)) = (sg 64 x8.toNatClampNeg).toInt64 := by
          unfold ws
          rw [ofI_32, ← tn, show x8.toNatClampNeg = x8.toInt.toNat by omega]
        rw [e11, pp, ← Int.add_assoc, Int64.ofInt_add (a + PW sg x v8.toInt.toNat), hw]
      · rw [if_neg f, ite0]
        have nb : ¬ BQ sg x v8.toInt.toNat := fun z => f ((bit_n o0 q0 (by omega)).mpr ((ob _).mpr z))
        have pp : PW sg x (v8.toInt.toNat + 1) = PW sg x v8.toInt.toNat := SF_n nb
        exact go _ c (by rw [pp])
  · refine ⟨rfl, rfl, rfl, rfl, by show 0 ≤ (0 : Int32).toInt; omega, by show (0 : Int32).toInt ≤ (s : Int); omega, rfl, ?_⟩
    show Int64.ofInt a = Int64.ofInt (a + PW sg x (0 : Int32).toInt.toNat)
    rw [k0]
    show Int64.ofInt a = Int64.ofInt (a + 0)
    rw [Int.add_zero]
set_option maxHeartbeats 4000000 in
theorem c_number {sg : Sg} {q : Nat → Nat} (hI : IC0 sg) (hH : HC sg) (hO : OV sg) (hl : LN sg) (hq : ∀ i, i < (sg 3 2).toInt.toNat → sg 32 i = Int32.ofNat (q i) ∧ q i < (sg 3 2).toInt.toNat) : Ok (fun y => y.2 = sg ∧ y.1 = ansN (NBc sg q (sg 3 2).toInt.toNat 0 0 0)) (LX9_numberOf_c32_19 ((0 : Int64), (0 : Int32), (0 : Int32), sg)) := by
  have k0 : (0 : Int32).toInt = 0 := by decide
  have hn := rdC3_2 hI
  unfold LX9_numberOf_c32_19
  refine ok_loop (I := fun (z : Int64 × Int32 × Int32 × Sg) => 0 ≤ z.2.1.toInt ∧ z.2.1.toInt.toNat < 2 ^ (sg 3 2).toInt.toNat ∧ 0 ≤ z.2.2.1.toInt ∧ z.2.2.1.toInt ≤ (sg 3 2).toInt ∧ z.2.2.2 = sg ∧ ∃ a, z.1 = Int64.ofInt a ∧ NBc sg q (sg 3 2).toInt.toNat 0 0 0 = NBc sg q ((sg 3 2).toInt.toNat - z.2.2.1.toInt.toNat) z.2.2.1.toInt.toNat z.2.1.toInt.toNat a) (m := fun (z : Int64 × Int32 × Int32 × Sg) => (13 - z.2.2.1.toInt).toNat) _ ?_ ?_ _ ?_
  · intro z hz
    have := hz.2.2.1
    show (13 - z.2.2.1.toInt).toNat < 10000
    omega
  · intro rec z hz hrec
    obtain ⟨k, v4, v5, t⟩ := z
    replace hz : 0 ≤ v4.toInt ∧ v4.toInt.toNat < 2 ^ (sg 3 2).toInt.toNat ∧ 0 ≤ v5.toInt ∧ v5.toInt ≤ (sg 3 2).toInt ∧ t = sg ∧ ∃ a, k = Int64.ofInt a ∧ NBc sg q (sg 3 2).toInt.toNat 0 0 0 = NBc sg q ((sg 3 2).toInt.toNat - v5.toInt.toNat) v5.toInt.toNat v4.toInt.toNat a := hz
    obtain ⟨a0, a1, p0, p1, e1, a, e2, e3⟩ := hz
    rw [e1, e2]
    show Ok _ (fX9_numberOf_c32_19 rec (Int64.ofInt a) v4 v5 sg)
    unfold fX9_numberOf_c32_19
    have hc5 := cl_i p0
    refine ok_ite (fun c => ?_) (fun c => ?_)
    · replace c := i_le.mp c
      refine ok_some ⟨rfl, ?_⟩
      rw [e3, show (sg 3 2).toInt.toNat - v5.toInt.toNat = 0 by omega]
      rfl
    · replace c := i_nle.mp c
      obtain ⟨q1, q2⟩ := hq v5.toInt.toNat (by omega)
      have os := ofn_n (j := q v5.toInt.toNat) (by omega)
      refine ok_gin (by omega) (by omega) ?_
      refine ok_lt (fun x3 f3 => ?_)
      rw [show v5.toNatClampNeg = v5.toInt.toNat by omega, q1] at f3
      obtain ⟨O, b1, o0, o1, ob⟩ := bestc_is hI hH hO hl a0 a1
      refine bnd2_of b1 (bnd2_of isIn_is ?_)
      rw [show (sg 3 2).toInt.toNat - v5.toInt.toNat = ((sg 3 2).toInt.toNat - (v5.toInt.toNat + 1)) + 1 by omega] at e3
      by_cases f : ((O >>> (x3 &&& 31)) &&& (1 : Int32)) = (1 : Int32)
      · rw [if_pos f, ite1, f3]
        rw [f3] at f
        have bq := (ob _).mp ((bit_n o0 (by omega) (by omega)).mp f)
        rw [os, Int.toNat_natCast] at bq
        rw [NBc_p bq] at e3
        refine nb_62 hI hl a0 rfl a1 q2 o0 o1 ob p0 (by omega) (fun x' p' h1 h2 h3 => ?_)
        refine hrec (Int64.ofInt (a + PW sg v4.toInt.toNat (q v5.toInt.toNat)), x', p', sg) ⟨h1, by show x'.toInt.toNat < _; rw [h2]; exact or_lt a1 q2, by show 0 ≤ p'.toInt; omega, by show p'.toInt ≤ (sg 3 2).toInt; omega, rfl, _, rfl, ?_⟩ (show (13 - p'.toInt).toNat < (13 - v5.toInt).toNat by omega)
        show NBc sg q (sg 3 2).toInt.toNat 0 0 0 = NBc sg q ((sg 3 2).toInt.toNat - p'.toInt.toNat) p'.toInt.toNat x'.toInt.toNat _
        rw [h2, show p'.toInt.toNat = v5.toInt.toNat + 1 by omega]
        exact e3
      · rw [if_neg f, ite0]
        have nb : ¬ BQ sg v4.toInt.toNat (q v5.toInt.toNat) := fun z => f ((bit_n o0 (by rw [f3]; omega) (by rw [f3]; omega)).mpr ((ob _).mpr (by rw [f3, os]; exact z)))
        rw [NBc_n nb] at e3
        exact ok_some ⟨rfl, by rw [e3]; rfl⟩
  · refine ⟨by show 0 ≤ (0 : Int32).toInt; omega, ?_, by show 0 ≤ (0 : Int32).toInt; omega, by show (0 : Int32).toInt ≤ (sg 3 2).toInt; omega, rfl, 0, rfl, ?_⟩
    · show (0 : Int32).toInt.toNat < _
      rw [k0]
      exact Nat.pow_pos (by decide)
    · rfl
/-! number: the reference's walk along the hand -/
noncomputable def NBm (sg : Sg) (lg : Lg) (p : Nat → Nat) : Nat → Nat → Nat → Nat → Int → Option Int
  | 0, _, _, _, a => some a
  | f + 1, i, X, u, a => @ite _ (BBn sg lg X u (p i)) (Classical.propDecidable _) (NBm sg lg p f (i + 1) (X ||| 2 ^ (p i)) (p i) (a + RW sg lg X u (p i))) none
theorem NBm_p {sg : Sg} {lg : Lg} {p : Nat → Nat} {f i X u : Nat} {a : Int} (h : BBn sg lg X u (p i)) : NBm sg lg p (f + 1) i X u a = NBm sg lg p f (i + 1) (X ||| 2 ^ (p i)) (p i) (a + RW sg lg X u (p i)) := by
  show @ite _ (BBn sg lg X u (p i)) (Classical.propDecidable _) _ _ = _
  exact if_pos h
theorem NBm_n {sg : Sg} {lg : Lg} {p : Nat → Nat} {f i X u : Nat} {a : Int} (h : ¬ BBn sg lg X u (p i)) : NBm sg lg p (f + 1) i X u a = none := by
  show @ite _ (BBn sg lg X u (p i)) (Classical.propDecidable _) _ _ = _
  exact if_neg h
section
variable {sm : Sg} {lm : Lg} {A : Nat}
theorem isB_n (sv : SV (sm 1)) (hA : A = (ctg (sm 1) (sm 1 0).toInt.toNat).toInt.toNat) (hR : ∀ X u, vn A X u → RN sm lm A X u) {X u h : Nat} (hv : vn A X u) (hh : h < 12) : fX12_isBest (Int32.ofNat h) (Int32.ofNat X) (Int32.ofNat u) sm lm = some (@ite _ (BBn sm lm X u h) (Classical.propDecidable _) 1 0, sm, lm) := by
  have le := vn_le' sv hA hv
  have ox := ofn_x le.1
  have ou := ofn_x (X := u) (by omega)
  have oh := ofn_n hh
  rw [isBest_is sv (by omega) (by omega) (by omega) (by omega) (by omega) (by omega)]
  by_cases b : BBn sm lm X u h
  · rw [if_pos b, if_pos ((bb_n sv hA hR hv le.1 le.2 hh).mpr b)]
  · rw [if_neg b, if_neg (fun z => b ((bb_n sv hA hR hv le.1 le.2 hh).mp z))]
set_option maxHeartbeats 4000000 in
theorem nm_60 {X u h i : Nat} {a : Int} {v5 : Int32} {P : Int64 × Sg × Lg → Prop} {r28 : (Int32 × Int32 × Int64 × Int32 × Sg × Lg) → Option (Int64 × Sg × Lg)} (sv : SV (sm 1)) (hA : A = (ctg (sm 1) (sm 1 0).toInt.toNat).toInt.toNat) (hR : ∀ X u, vn A X u → RN sm lm A X u) (hv : vn A X u) (hh : h < 12) (p0 : 0 ≤ v5.toInt) (p1 : v5.toInt ≤ 11) (h3 : sm 3 v5.toInt.toNat = Int32.ofNat h)
    (hr : ∀ (p' : Int32), p'.toInt = v5.toInt + 1 → Ok P (r28 (Int32.ofNat (X ||| 2 ^ h), Int32.ofNat h, Int64.ofInt (a + RW sm lm X u h), p', sm, lm))) : Ok P (LX12_number_60 r28 (Int32.ofNat X, Int32.ofNat u, Int64.ofInt a, v5, (0 : Int32), sm, lm)) := by
  have k0 : (0 : Int32).toInt = 0 := by decide
  have k1 : (1 : Int32).toInt = 1 := by decide
  have le := vn_le' sv hA hv
  have oh := ofn_n hh
  have hc5 := cl_i p0
  have e5 : v5.toNatClampNeg = v5.toInt.toNat := by omega
  unfold LX12_number_60
  refine ok_loop (I := fun (q : Int32 × Int32 × Int64 × Int32 × Int32 × Sg × Lg) => q.1 = Int32.ofNat X ∧ q.2.1 = Int32.ofNat u ∧ q.2.2.2.1 = v5 ∧ 0 ≤ q.2.2.2.2.1.toInt ∧ q.2.2.2.2.1.toInt ≤ (h : Int) ∧ q.2.2.2.2.2 = (sm, lm) ∧ q.2.2.1 = Int64.ofInt (a + RW sm lm X u q.2.2.2.2.1.toInt.toNat)) (m := fun (q : Int32 × Int32 × Int64 × Int32 × Int32 × Sg × Lg) => (13 - q.2.2.2.2.1.toInt).toNat) _ ?_ ?_ _ ?_
  · intro q hq
    have := hq.2.2.2.1
    show (13 - q.2.2.2.2.1.toInt).toNat < 10000
    omega
  · intro rec q hq hrec
    obtain ⟨q1, q2, k, q5, v6, t, l⟩ := q
    replace hq : q1 = Int32.ofNat X ∧ q2 = Int32.ofNat u ∧ q5 = v5 ∧ 0 ≤ v6.toInt ∧ v6.toInt ≤ (h : Int) ∧ (t, l) = (sm, lm) ∧ k = Int64.ofInt (a + RW sm lm X u v6.toInt.toNat) := hq
    obtain ⟨e1, e2, e3, q0, q1', e4, e6⟩ := hq
    obtain ⟨z1, z2⟩ := Prod.mk.inj e4
    rw [e1, e2, e3, e6, z1, z2]
    show Ok P (fX12_number_60 r28 rec (Int32.ofNat X) (Int32.ofNat u) (Int64.ofInt (a + RW sm lm X u v6.toInt.toNat)) v5 v6 sm lm)
    unfold fX12_number_60
    rw [e5, h3]
    have go : ∀ (w0 : Int64), v6.toInt < (h : Int) → Int64.ofInt (a + RW sm lm X u v6.toInt.toNat) + w0 = Int64.ofInt (a + RW sm lm X u (v6.toInt.toNat + 1)) → Ok P (fX12_number_105 r28 rec (Int32.ofNat X) (Int32.ofNat u) v5 v6 w0 (Int64.ofInt (a + RW sm lm X u v6.toInt.toNat)) sm lm) := by
      intro w0 g0 g1
      unfold fX12_number_105
      refine ok_lt (fun x1 f1 => ?_)
      refine ok_lt (fun x2 f2 => ?_)
      replace f2 : x2.toInt = v6.toInt + 1 := by rw [f2]; exact add_c 1 k1 (by omega) (by omega)
      refine hrec (Int32.ofNat X, Int32.ofNat u, x1, v5, x2, sm, lm) ⟨rfl, rfl, rfl, by show 0 ≤ x2.toInt; omega, by show x2.toInt ≤ (h : Int); omega, rfl, ?_⟩ (show (13 - x2.toInt).toNat < (13 - v6.toInt).toNat by omega)
      show x1 = Int64.ofInt (a + RW sm lm X u x2.toInt.toNat)
      rw [show x2.toInt.toNat = v6.toInt.toNat + 1 by omega, f1]; exact g1
    refine ok_gin (by omega) (by omega) ?_
    refine ok_ite (fun c => ?_) (fun c => ?_)
    · replace c := i_le.mp c
      rw [oh] at c
      refine ok_gin (by omega) (by omega) ?_
      refine ok_lt (fun x4 f4 => ?_)
      refine ok_gin (by omega) (by omega) ?_
      refine ok_lt (fun x6 f6 => ?_)
      refine ok_lt (fun x7 f7 => ?_)
      replace f7 : x7.toInt = v5.toInt + 1 := by rw [f7]; exact add_c 1 k1 (by omega) (by omega)
      rw [f4, f6, (ofn_or le.1 hh).1, show v6.toInt.toNat = h by omega]
      exact hr x7 f7
    · replace c := i_nle.mp c
      rw [oh] at c
      have h6 : v6 = Int32.ofNat v6.toInt.toNat := of_i q0
      have l6 : v6.toInt.toNat < 12 := by omega
      have ib := isB_n sv hA hR hv l6
      rw [← h6] at ib
      refine bnd3_of ib ?_
      by_cases b : BBn sm lm X u v6.toInt.toNat
      · rw [if_pos b, ite1]
        have pp : RW sm lm X u (v6.toInt.toNat + 1) = RW sm lm X u v6.toInt.toNat + Wv lm (X ||| 2 ^ v6.toInt.toNat) v6.toInt.toNat := SF_p b
        have oo := ofn_or (h := v6.toInt.toNat) le.1 l6
        rw [← h6] at oo
        refine ok_lt (fun x13 f13 => ?_)
        have ax13 := ax_n (u := v6.toInt.toNat) oo.2 (by omega)
        rw [← h6, ← oo.1] at ax13
        replace ax13 : x13.toNatClampNeg = 13 * (X ||| 2 ^ v6.toInt.toNat) + v6.toInt.toNat := by rw [f13]; exact ax13
        have oox := ofn_x oo.2
        have axi := ax_i (set := Int32.ofNat (X ||| 2 ^ v6.toInt.toNat)) (last := v6) (by omega) (by omega) q0 (by omega)
        have e13 : x13 = ax (Int32.ofNat (X ||| 2 ^ v6.toInt.toNat)) v6 := by rw [f13, oo.1]; rfl
        rw [← e13] at axi
        refine ok_gin (by omega) (by omega) ?_
        refine go _ c ?_
        rw [ax13, pp, ← Int.add_assoc, Int64.ofInt_add (a + RW sm lm X u v6.toInt.toNat)]
        unfold Wv
        rw [Int64.ofInt_toInt]
      · rw [if_neg b, ite0]
        have pp : RW sm lm X u (v6.toInt.toNat + 1) = RW sm lm X u v6.toInt.toNat := SF_n b
        refine go _ c ?_
        rw [pp]
        exact Int64.add_zero _
  · refine ⟨rfl, rfl, rfl, by show 0 ≤ (0 : Int32).toInt; omega, by show (0 : Int32).toInt ≤ (h : Int); omega, rfl, ?_⟩
    show Int64.ofInt a = Int64.ofInt (a + RW sm lm X u (0 : Int32).toInt.toNat)
    rw [k0]
    show Int64.ofInt a = Int64.ofInt (a + 0)
    rw [Int.add_zero]
set_option maxHeartbeats 4000000 in
theorem m_number (sv : SV (sm 1)) (h12 : 0 ≤ (sm 0 4).toInt ∧ (sm 0 4).toInt ≤ 12) (hp3 : ∀ i, hp sm i < 12 ∧ sm 3 i = Int32.ofNat (hp sm i)) (hA : A = (ctg (sm 1) (sm 1 0).toInt.toNat).toInt.toNat) (hR : ∀ X u, vn A X u → RN sm lm A X u) : Ok (fun y => y.2 = (sm, lm) ∧ y.1 = (if Lv lm 0 12 < 1000000000000000 then ansN (NBm sm lm (hp sm) (sm 0 4).toInt.toNat 0 0 12 0) else -2000000005)) (LX12_number_28 ((0 : Int32), (12 : Int32), (0 : Int64), (0 : Int32), sm, lm)) := by
  have k0 : (0 : Int32).toInt = 0 := by decide
  have kc : (12 : Int32).toNatClampNeg = 12 := by decide
  unfold LX12_number_28
  refine ok_loop (I := fun (z : Int32 × Int32 × Int64 × Int32 × Sg × Lg) => 0 ≤ z.2.2.2.1.toInt ∧ z.2.2.2.1.toInt ≤ (sm 0 4).toInt ∧ z.2.2.2.2 = (sm, lm) ∧ ∃ X u a, z.1 = Int32.ofNat X ∧ z.2.1 = Int32.ofNat u ∧ z.2.2.1 = Int64.ofInt a ∧ vn A X u ∧ NBm sm lm (hp sm) (sm 0 4).toInt.toNat 0 0 12 0 = NBm sm lm (hp sm) ((sm 0 4).toInt.toNat - z.2.2.2.1.toInt.toNat) z.2.2.2.1.toInt.toNat X u a) (m := fun (z : Int32 × Int32 × Int64 × Int32 × Sg × Lg) => (13 - z.2.2.2.1.toInt).toNat) _ ?_ ?_ _ ?_
  · intro z hz
    have := hz.1
    show (13 - z.2.2.2.1.toInt).toNat < 10000
    omega
  · intro rec z hz hrec
    obtain ⟨v1, v2, v3, v5, t, l⟩ := z
    replace hz : 0 ≤ v5.toInt ∧ v5.toInt ≤ (sm 0 4).toInt ∧ (t, l) = (sm, lm) ∧ ∃ X u a, v1 = Int32.ofNat X ∧ v2 = Int32.ofNat u ∧ v3 = Int64.ofInt a ∧ vn A X u ∧ NBm sm lm (hp sm) (sm 0 4).toInt.toNat 0 0 12 0 = NBm sm lm (hp sm) ((sm 0 4).toInt.toNat - v5.toInt.toNat) v5.toInt.toNat X u a := hz
    obtain ⟨p0, p1, g, X, u, a, e1, e2, e3, hv, e4⟩ := hz
    obtain ⟨z1, z2⟩ := Prod.mk.inj g
    rw [e1, e2, e3, z1, z2]
    show Ok _ (fX12_number_28 rec (Int32.ofNat X) (Int32.ofNat u) (Int64.ofInt a) v5 sm lm)
    unfold fX12_number_28
    have hc5 := cl_i p0
    have le := vn_le' sv hA hv
    refine ok_ite (fun c => ?_) (fun c => ?_)
    · replace c := i_le.mp c
      show Ok _ (gin (12 : Int32) 53248 ((if (lm 4 (12 : Int32).toNatClampNeg) < (1000000000000000 : Int64) then some (Int64.ofInt a, sm, lm) else some ((-2000000005 : Int64), sm, lm))))
      refine ok_gin (by decide) (by decide) ?_
      rw [kc]
      rw [show (sm 0 4).toInt.toNat - v5.toInt.toNat = 0 by omega] at e4
      have kB : (1000000000000000 : Int64).toInt = 1000000000000000 := by decide
      have eL : (lm 4 12).toInt = Lv lm 0 12 := rfl
      refine ok_ite (fun d => ?_) (fun d => ?_)
      · replace d := j_lt.mp d
        refine ok_some ⟨rfl, ?_⟩
        rw [if_pos (by omega), e4]
        rfl
      · replace d := j_nlt.mp d
        refine ok_some ⟨rfl, ?_⟩
        rw [if_neg (by omega)]
    · replace c := i_nle.mp c
      obtain ⟨h1, h2⟩ := hp3 v5.toInt.toNat
      refine ok_gin (by omega) (by omega) ?_
      rw [show v5.toNatClampNeg = v5.toInt.toNat by omega, h2]
      refine bnd3_of (isB_n sv hA hR hv h1) ?_
      rw [show (sm 0 4).toInt.toNat - v5.toInt.toNat = ((sm 0 4).toInt.toNat - (v5.toInt.toNat + 1)) + 1 by omega] at e4
      by_cases b : BBn sm lm X u (hp sm v5.toInt.toNat)
      · rw [if_pos b, ite1]
        rw [NBm_p b] at e4
        refine nm_60 (i := 0) sv hA hR hv h1 p0 (by omega) h2 (fun p' hp' => ?_)
        refine hrec (Int32.ofNat (X ||| 2 ^ hp sm v5.toInt.toNat), Int32.ofNat (hp sm v5.toInt.toNat), Int64.ofInt (a + RW sm lm X u (hp sm v5.toInt.toNat)), p', sm, lm) ⟨by show 0 ≤ p'.toInt; omega, by show p'.toInt ≤ (sm 0 4).toInt; omega, rfl, _, _, _, rfl, rfl, rfl, vn_next hv (mcn_A sv hA le.1 h1 b.1) h1, ?_⟩ (show (13 - p'.toInt).toNat < (13 - v5.toInt).toNat by omega)
        show NBm sm lm (hp sm) (sm 0 4).toInt.toNat 0 0 12 0 = NBm sm lm (hp sm) ((sm 0 4).toInt.toNat - p'.toInt.toNat) p'.toInt.toNat _ _ _
        rw [show p'.toInt.toNat = v5.toInt.toNat + 1 by omega]
        exact e4
      · rw [if_neg b, ite0]
        rw [NBm_n b] at e4
        refine ok_some ⟨rfl, ?_⟩
        rw [e4]
        split <;> rfl
  · refine ⟨by show 0 ≤ (0 : Int32).toInt; omega, by show (0 : Int32).toInt ≤ (sm 0 4).toInt; omega, rfl, 0, 12, 0, rfl, rfl, rfl, ⟨fun j hj => absurd hj (by rw [Nat.zero_testBit]; decide), Or.inl ⟨rfl, rfl⟩⟩, rfl⟩
end
/-! number: both walks are alike -/
section
variable {sx sm : Sg} {lm : Lg} {A : Nat}
theorem nb_eq (hI : IC0 sx) (hF : FEq sx (sm 1)) (hM : MC sx) (hO : OV sx) (h7 : sm 0 7 = 1) (h9 : sm 0 9 = -1) (hA : A = (ctg (sm 1) (sm 1 0).toInt.toNat).toInt.toNat) (ns : ∀ h, ¬ Wt sx h h) (hR : ∀ X u, vn A X u → RN sm lm A X u) {p : Nat → Nat} : ∀ (f i x u : Nat) (a : Int), (∀ j, i ≤ j → j < i + f → p j < 12 ∧ cnb sx (p j) = true) → x < 2 ^ rk sx 12 → vn A (HS sx x) u → Good sx (HS sx x) u → ¬ rr sx x = 1000000000 → NBc sx (fun j => rk sx (p j)) f i x a = NBm sm lm p f i (HS sx x) u a := by
  have en : (sx 3 2).toInt.toNat = rk sx 12 := by rw [hM.1]; rfl
  intro f
  induction f with
  | zero => intro i x u a _ _ _ _ _; rfl
  | succ f ih =>
    intro i x u a hp hx hv hg small
    obtain ⟨hh, hc⟩ := hp i (Nat.le_refl _) (by omega)
    have stp := fun {h : Nat} (hh : h < 12) => law_step hI hF hM hO h7 h9 hA ns hR hx hv hg small hh
    by_cases bq : BQ sx x (rk sx (p i))
    · have bb := (stp hh).1.mpr ⟨hc, bq⟩
      obtain ⟨gd, vx, wx⟩ := (stp hh).2 hc bq
      have sums : ∀ m, m ≤ 12 → RW sm lm (HS sx x) u m = PW sx x (rk sx m) := by
        intro m hm
        refine SF_rk (sx := sx) (fun j hj hcj => ?_) (fun j hj hcj hp => ?_) (fun j hj hcj hp => ?_) m hm
        · exact ⟨fun z => ((stp hj).1.mp z).2, fun z => (stp hj).1.mpr ⟨hcj, z⟩⟩
        · have := ((stp hj).1.mp hp).1
          rw [hcj] at this; cases this
        · exact ((stp hj).2 hcj ((stp hj).1.mp hp).2).2.2
      have oe := HS_or (x := x) hh hc
      have ol := or_lt hx (rk_lt hc hh)
      have lb := rr_bd hO hI (y := x ||| 2 ^ rk sx (p i)) (by rw [en]; exact ol)
      have rx := (hO x (by have := rk_le sx 12; omega) (by rw [en]; exact hx)).1
      have zl := zc_le x (sx 3 2).toInt.toNat
      have n12 := rdC3_2 hI
      have csb := cs_bd hI (rk sx (p i)) x
      have small' : ¬ rr sx (x ||| 2 ^ rk sx (p i)) = 1000000000 := fun z => by
        have b2 := bq.2
        unfold rval at b2
        rcases rx.2.1 with y | y
        · exact small y.1
        · omega
      rw [NBc_p (q := fun j => rk sx (p j)) bq, NBm_p bb, sums _ (by omega)]
      show NBc sx (fun j => rk sx (p j)) f (i + 1) (x ||| 2 ^ rk sx (p i)) (a + PW sx x (rk sx (p i))) = _
      rw [← oe] at gd vx ⊢
      exact ih (i + 1) (x ||| 2 ^ rk sx (p i)) (p i) _ (fun j h1 h2 => hp j (by omega) (by omega)) ol vx gd small'
    · have nb : ¬ BBn sm lm (HS sx x) u (p i) := fun z => bq ((stp hh).1.mp z).2
      rw [NBc_n (q := fun j => rk sx (p j)) bq, NBm_n nb]
end
theorem LO_cg2 {s r : Sg} {p : Nat → Nat} {n : Nat} (h : LO s p n) (e1 : r 1 = s 1) (e11 : r 11 = s 11) (e13 : r 13 = s 13) (e32 : r 32 = s 32) (e33 : r 33 = s 33) : LO r p n := by
  have cc : ∀ x, cnb r x = cnb s x := fun x => cnb_cg e1 e11 e13 x
  have er : ∀ m, rk r m = rk s m := rk_cg cc
  refine ⟨by rw [er]; exact h.1, fun i hi => ?_⟩
  rw [cc, er, e32, e33]
  exact h.2 i hi
set_option maxHeartbeats 4000000 in
theorem val_number {K : Sg → Sg → Lg → Prop} {n : Nat} {sx sm sx' sm' : Sg} {lm lm' : Lg} {r r' : Int64} (h : Rel K n sx sm lm) (hJ : JC sx) (hN : NSH sm) (hd : HD sx sm) (e1 : fX11_number sx = some (r, sx')) (e2 : fX12_number sm lm = some (r', sm', lm')) : r = r' ∧ HD sx' sm' := by
  have hM := h.2.1
  have k0 : (0 : Int32).toNatClampNeg = 0 := by decide
  have kB : (1000000000 : Int32).toInt = 1000000000 := by decide
  unfold fX11_number at e1
  obtain ⟨y, s, c1, d1⟩ := p_bnd2 e1
  unfold fX12_number at e2
  obtain ⟨y', s', l', c2, d2⟩ := p_bnd3 e2
  obtain ⟨z1, z2, i1, j1, m1, F1, hd1, f1, alt⟩ := read_both h hJ hd c1 c2
  rw [z1, z2] at d2
  rcases alt with ⟨a1, b1, w, lr⟩ | ⟨a1, b1⟩
  · rw [a1, ite1] at d1
    rw [b1, ite1] at d2
    have lo := lo_of i1.1 hM hd1 w lr
    obtain ⟨s5, c5, d3⟩ := p_bnd1 d1
    obtain ⟨s6, l6, c6, d4⟩ := p_bnd2 d2
    obtain ⟨i5, -, mc5, hc5, ov5, -, f5⟩ := ok_at (j_solve i1 j1) c5
    have ln5 : LN s5 := by
      have q := (ok_at (sX9_solve i1) c5).2
      unfold LN
      rw [← pw_is]
      exact ⟨q.1, q.2.1⟩
    have F5 : FEq s5 (sm 1) := FEq_cg F1 (fun k hk => f5 k (by unfold flq at hk; omega))
    have lo5 : LO s5 (hp sm) (sm 0 4).toInt.toNat := LO_cg2 lo (f5 1 (by omega)) (f5 11 (by omega)) (f5 13 (by omega)) (f5 32 (by omega)) (f5 33 (by omega))
    have R := ok_at (x_law hM.2.2) c6
    have ns := ns_wt F5 hN
    have z := law0 i5.1 F5 mc5 ov5 ns R
    obtain ⟨A, t1, t2, t3, t4, t5, fm⟩ := R
    replace t2 : s6 1 = sm 1 := t2
    replace fm : FM0 sm s6 := fm
    have e3 : s6 3 = sm 3 := fm.1 3 (by decide)
    have e4 : s6 0 4 = sm 0 4 := fm.2 4 (by decide) (by decide) (by decide)
    have ehp : hp s6 = hp sm := by funext i; unfold hp; rw [e3]
    have sv6 : SV (s6 1) := by rw [t2]; exact hM.2.2
    have F6 : FEq s5 (s6 1) := by rw [t2]; exact F5
    have en : (s5 3 2).toInt.toNat = (sm 0 4).toInt.toNat := by rw [mc5.1, ← lo5.1]; rfl
    have hd5 : HD s5 s6 := hd_cg hd1 (f5 5 (by omega)) (f5 31 (by omega)) e4 e3
    obtain ⟨g1, g2⟩ := ok_at (m_number (A := A) sv6 (by rw [e4]; exact rdM0_4 hM) (fun i => by rw [ehp, e3]; exact hp_lt hM i) t1 t5) d4
    obtain ⟨g3, g4⟩ := Prod.mk.inj (show (sm', lm') = (s6, l6) from g1)
    replace g2 : r' = (if Lv l6 0 12 < 1000000000000000 then ansN (NBm s6 l6 (hp s6) (s6 0 4).toInt.toNat 0 0 12 0) else -2000000005) := g2
    rw [z.1] at g2
    obtain ⟨y8, s9, c8, d5⟩ := p_bnd2 d3
    cases d5
    unfold fX9_numberOf_c32 at c8
    obtain ⟨y1, s2, c9, d6⟩ := p_bnd2 c8
    unfold fX9_hasLawful at c9
    replace c9 := p_gin c9
    rw [k0] at c9
    have er : (s5 63 0).toInt = rr s5 0 := rfl
    by_cases w : rr s5 0 = 1000000000
    · rw [if_pos (by rw [i_le]; omega)] at c9
      cases c9
      rw [ite0] at d6
      cases d6
      unfold rw' at g2
      rw [if_pos w, if_neg (by decide)] at g2
      rw [g2, g3]
      exact ⟨rfl, hd5⟩
    · rw [if_neg (by rw [i_le]; omega)] at c9
      cases c9
      rw [ite1] at d6
      have nr := rk_le s5 12
      obtain ⟨g5, g6⟩ := ok_at (c_number (q := fun j => rk s5 (hp sm j)) i5.1 hc5 ov5 ln5 (fun i hi => by
        rw [en] at hi
        have li := lo5.2 i hi
        refine ⟨li.2.2.1, ?_⟩
        rw [mc5.1]
        exact rk_lt li.2.1 li.1)) d6
      replace g5 : sx' = s5 := g5
      replace g6 : r = ansN (NBc s5 (fun j => rk s5 (hp sm j)) (s5 3 2).toInt.toNat 0 0 0) := g6
      have ne := nb_eq (sx := s5) (sm := s6) (lm := l6) (A := A) i5.1 F6 mc5 ov5 t3 t4 t1 ns t5 (p := hp sm) (sm 0 4).toInt.toNat 0 0 12 0 (fun j _ hj => ⟨(lo5.2 j (by omega)).1, (lo5.2 j (by omega)).2.1⟩) (Nat.pow_pos (by decide)) ⟨fun j hj => absurd hj (by rw [HS_0, Nat.zero_testBit]; decide), Or.inl ⟨rfl, HS_0 s5⟩⟩ (by rw [HS_0]; exact good0 s5 12) w
      rw [HS_0] at ne
      unfold rw' at g2
      have zz := z.2.2
      rw [if_neg w, if_pos (by omega), ehp, e4] at g2
      rw [g2, g3, g5, g6, en, ne]
      exact ⟨rfl, hd5⟩
  · rw [a1, ite0] at d1
    rw [b1, ite0] at d2
    cases d1
    cases d2
    exact ⟨rfl, hd1⟩
