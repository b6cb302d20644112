/-! rings: the reference's closes, ringNext -/
section
variable {sm : Sg} {lm : Lg} {H L : Nat}
def eM (sm : Sg) (H a b : Nat) : Prop := a < H ∧ b < H ∧ 0 < (sm 10 (12 * a + b)).toInt
def rw11 (t : Sg) (i : Nat) : Nat := (t 11 i).toInt.toNat
/-- only the row has changed -/
def F11 (sm t : Sg) : Prop := (∀ c, c ≠ 11 → t c = sm c) ∧ ∀ j, 0 ≤ (t 11 j).toInt ∧ (t 11 j).toInt ≤ 11
/-- the first m of the row -/
def PFX (sm : Sg) (H : Nat) (t : Sg) (m : Nat) : Prop := 1 ≤ m ∧ (∀ i, i < m → rw11 t i < H) ∧ (∀ i, i + 1 < m → eM sm H (rw11 t i) (rw11 t (i + 1))) ∧ (∀ i, 0 < i → i < m → rw11 t 0 < rw11 t i) ∧ ∀ i j, i < j → j < m → rw11 t i ≠ rw11 t j
def CLq (sm : Sg) (lm : Lg) (H L : Nat) (t : Sg) (m : Nat) (q : Int32 × Sg × Lg) : Prop := q.2.2 = lm ∧ F11 sm q.2.1 ∧ (∀ i, i < m → q.2.1 11 i = t 11 i) ∧ ((q.1 = 1 ∧ VRg (eM sm H) L (rw11 q.2.1) ∧ ∀ p, VRg (eM sm H) L p → (∀ i, i < m → p i = rw11 t i) → LXl L (rw11 q.2.1) p) ∨ (q.1 = 0 ∧ ∀ p, VRg (eM sm H) L p → ¬ ∀ i, i < m → p i = rw11 t i))
set_option maxHeartbeats 4000000 in
theorem cl_64 {t : Sg} {m : Nat} {v3 v4 : Int32} {P : Int32 × Sg × Lg → Prop} {rc : Int32 × Int32 × Sg × Lg → Option (Int32 × Sg × Lg)} {r49 : (Int32 × Int32 × Int32 × Int32 × Sg × Lg) → Option (Int32 × Sg × Lg)} (H12 : H ≤ 12) (hm : 1 ≤ m) (hmL : m < L) (L12 : L ≤ 12) (ht : F11 sm t) (h3 : v3 = t 11 (m - 1)) (hh0 : 0 ≤ v4.toInt) (hh1 : v4.toInt < (H : Int)) (h3H : rw11 t (m - 1) < H)
    (skip : ∀ (t' : Sg) (x : Int32), F11 sm t' → (∀ i, i < m → t' 11 i = t 11 i) → x.toInt = v4.toInt + 1 → ((∃ i, i < m ∧ rw11 t i = v4.toInt.toNat) ∨ (¬ eM sm H (rw11 t (m - 1)) v4.toInt.toNat) ∨ (∀ p, VRg (eM sm H) L p → (∀ i, i < m → p i = rw11 t i) → p m ≠ v4.toInt.toNat)) → Ok P (r49 (Int32.ofNat m, Int32.ofNat L, v3, x, t', lm)))
    (take : ∀ (t' : Sg), (¬ ∃ i, i < m ∧ rw11 t i = v4.toInt.toNat) → eM sm H (rw11 t (m - 1)) v4.toInt.toNat → F11 sm t' → (∀ i, i < m → t' 11 i = t 11 i) → rw11 t' m = v4.toInt.toNat → Ok (CLq sm lm H L t' (m + 1)) (rc (Int32.ofNat (m + 1), Int32.ofNat L, t', lm)))
    (fin : ∀ (t' : Sg), F11 sm t' → (∀ i, i < m → t' 11 i = t 11 i) → rw11 t' m = v4.toInt.toNat → VRg (eM sm H) L (rw11 t') → (∀ p, VRg (eM sm H) L p → (∀ i, i < m + 1 → p i = rw11 t' i) → LXl L (rw11 t') p) → P (1, t', lm)) : Ok P (LX12_closes_64 rc r49 (Int32.ofNat m, Int32.ofNat L, v3, v4, (0 : Int32), (0 : Int32), t, lm)) := by
  have k0 : (0 : Int32).toInt = 0 := by decide
  have k1 : (1 : Int32).toInt = 1 := by decide
  have om := ofn_x (X := m) (by omega)
  have hc4 := cl_i hh0
  unfold LX12_closes_64
  refine ok_loop (I := fun (z : Int32 × Int32 × Int32 × Int32 × Int32 × Int32 × Sg × Lg) => z.1 = Int32.ofNat m ∧ z.2.1 = Int32.ofNat L ∧ z.2.2.1 = v3 ∧ z.2.2.2.1 = v4 ∧ z.2.2.2.2.2.2 = (t, lm) ∧ 0 ≤ z.2.2.2.2.2.1.toInt ∧ z.2.2.2.2.2.1.toInt ≤ (m : Int) ∧ ((z.2.2.2.2.1 = 0 ∧ ¬ ∃ i : Nat, (i : Int) < z.2.2.2.2.2.1.toInt ∧ rw11 t i = v4.toInt.toNat) ∨ (¬ z.2.2.2.2.1 = 0 ∧ ∃ i : Nat, i < m ∧ rw11 t i = v4.toInt.toNat))) (m := fun (z : Int32 × Int32 × Int32 × Int32 × Int32 × Int32 × Sg × Lg) => (13 - z.2.2.2.2.2.1.toInt).toNat) _ ?_ ?_ _ ?_
  · intro z hz
    have := hz.2.2.2.2.2.1
    show (13 - z.2.2.2.2.2.1.toInt).toNat < 10000
    omega
  · intro rec z hz hrec
    obtain ⟨a1, a2, a3, a4, v5, v6, t', l'⟩ := z
    replace hz : a1 = Int32.ofNat m ∧ a2 = Int32.ofNat L ∧ a3 = v3 ∧ a4 = v4 ∧ (t', l') = (t, lm) ∧ 0 ≤ v6.toInt ∧ v6.toInt ≤ (m : Int) ∧ ((v5 = 0 ∧ ¬ ∃ i : Nat, (i : Int) < v6.toInt ∧ rw11 t i = v4.toInt.toNat) ∨ (¬ v5 = 0 ∧ ∃ i : Nat, i < m ∧ rw11 t i = v4.toInt.toNat)) := hz
    obtain ⟨e1, e2, e3, e4, e5, b0, b1, alt⟩ := hz
    obtain ⟨z1, z2⟩ := Prod.mk.inj e5
    rw [e1, e2, e3, e4, z1, z2]
    show Ok P (fX12_closes_64 rc r49 rec (Int32.ofNat m) (Int32.ofNat L) v3 v4 v5 v6 t lm)
    unfold fX12_closes_64
    have hc6 := cl_i b0
    have sk : ∀ t' : Sg, F11 sm t' → (∀ i, i < m → t' 11 i = t 11 i) → ((∃ i, i < m ∧ rw11 t i = v4.toInt.toNat) ∨ (¬ eM sm H (rw11 t (m - 1)) v4.toInt.toNat) ∨ (∀ p, VRg (eM sm H) L p → (∀ i, i < m → p i = rw11 t i) → p m ≠ v4.toInt.toNat)) → Ok P (fX12_closes_141 rc r49 (Int32.ofNat m) (Int32.ofNat L) v3 v4 t' lm) := by
      intro t' g1 g2 g3
      unfold fX12_closes_141
      refine ok_lt (fun x e => ?_)
      replace e : x.toInt = v4.toInt + 1 := by rw [e]; exact add_c 1 (by decide) (by omega) (by omega)
      exact skip t' x g1 g2 e g3
    refine ok_ite (fun c => ?_) (fun c => ?_)
    · replace c := i_le.mp c
      rw [om] at c
      refine ok_ite (fun d => ?_) (fun d => ?_)
      · have nt : ¬ ∃ i, i < m ∧ rw11 t i = v4.toInt.toNat := by
          rcases alt with ⟨-, z⟩ | ⟨z, -⟩
          · rintro ⟨i, y1, y2⟩
            exact z ⟨i, by omega, y2⟩
          · exact absurd d z
        clear alt
        have r3 := ht.2 (m - 1)
        rw [← h3] at r3
        have e3' : rw11 t (m - 1) = v3.toInt.toNat := by unfold rw11; rw [h3]
        have ix := ix12 (a := v3) (b := v4) r3.1 r3.2 hh0 (by omega)
        refine ok_lt (fun x3 g3 => ?_)
        rw [g3]
        refine ok_gin (by omega) (by omega) ?_
        rw [ht.1 10 (by decide), ix.1]
        refine ok_ite (fun f => ?_) (fun f => ?_)
        · replace f := i_le.mp f
          rw [k0] at f
          refine sk t ht (fun _ _ => rfl) (Or.inr (Or.inl (fun z => ?_)))
          have := z.2.2
          rw [e3'] at this
          omega
        · replace f := i_nle.mp f
          rw [k0] at f
          have ed : eM sm H (rw11 t (m - 1)) v4.toInt.toNat := ⟨h3H, by omega, by rw [e3']; exact f⟩
          have hcm := cl_i (i := Int32.ofNat m) (by omega)
          refine ok_gin (by omega) (by omega) ?_
          refine ok_lt (fun s7 e7 => ?_)
          rw [show (Int32.ofNat m).toNatClampNeg = m by omega] at e7
          have f7 : F11 sm s7 := by
            refine ⟨fun c hc => by rw [e7, up2_n hc]; exact ht.1 c hc, fun j => ?_⟩
            by_cases w : j = m
            · rw [w, e7, up2_e]; omega
            · rw [e7, up2_o (Or.inr w)]; exact ht.2 j
          have p7 : ∀ i, i < m → s7 11 i = t 11 i := fun i hi => by rw [e7, up2_o (Or.inr (by omega))]
          have r7 : rw11 s7 m = v4.toInt.toNat := by unfold rw11; rw [e7, up2_e]
          have em1 : Int32.ofNat m + (1 : Int32) = Int32.ofNat (m + 1) := Int32.toInt_inj.mp (by rw [add_c 1 (by decide) (by omega) (by omega), om, ofn_x (by omega)]; rfl)
          rw [em1]
          refine ok_bnd3 (take s7 nt ed f7 p7 r7) (fun y8 s9 l10 h9 => ?_)
          obtain ⟨g1, g2, g4, g5⟩ := h9
          replace g1 : l10 = lm := g1
          replace g2 : F11 sm s9 := g2
          replace g4 : ∀ i, i < m + 1 → s9 11 i = s7 11 i := g4
          rw [g1]
          have p9 : ∀ i, i < m → s9 11 i = t 11 i := fun i hi => by rw [g4 i (by omega)]; exact p7 i hi
          rcases g5 with ⟨y1, y2, y3⟩ | ⟨y1, y2⟩
          · replace y1 : y8 = 1 := y1
            replace y2 : VRg (eM sm H) L (rw11 s9) := y2
            replace y3 : ∀ p, VRg (eM sm H) L p → (∀ i, i < m + 1 → p i = rw11 s7 i) → LXl L (rw11 s9) p := y3
            rw [y1, ite1]
            refine ok_some (fin s9 g2 p9 ?_ y2 (fun p hv hpp => y3 p hv (fun i hi => ?_)))
            · unfold rw11; rw [g4 m (by omega)]; exact r7
            · rw [hpp i hi]; unfold rw11; rw [g4 i hi]
          · replace y1 : y8 = 0 := y1
            replace y2 : ∀ p, VRg (eM sm H) L p → ¬ ∀ i, i < m + 1 → p i = rw11 s7 i := y2
            rw [y1, ite0]
            refine sk s9 g2 p9 (Or.inr (Or.inr (fun p hv hpp z => y2 p hv (fun i hi => ?_))))
            by_cases w : i = m
            · rw [w, z, r7]
            · rw [hpp i (by omega)]; unfold rw11; rw [p7 i (by omega)]
      · have yt : ∃ i, i < m ∧ rw11 t i = v4.toInt.toNat := by
          rcases alt with ⟨z, -⟩ | ⟨-, z⟩
          · exact absurd z d
          · exact z
        exact sk t ht (fun _ _ => rfl) (Or.inl yt)
    · replace c := i_nle.mp c
      rw [om] at c
      have on : ∀ w : Int32, ((w = 0 ∧ ¬ ∃ i : Nat, (i : Int) < v6.toInt + 1 ∧ rw11 t i = v4.toInt.toNat) ∨ (¬ w = 0 ∧ ∃ i : Nat, i < m ∧ rw11 t i = v4.toInt.toNat)) → Ok P (fX12_closes_92 rc r49 rec (Int32.ofNat m) (Int32.ofNat L) v3 v4 v6 w t lm) := by
        intro w hw
        unfold fX12_closes_92
        refine ok_lt (fun x e => ?_)
        replace e : x.toInt = v6.toInt + 1 := by rw [e]; exact add_c 1 (by decide) (by omega) (by omega)
        refine hrec (Int32.ofNat m, Int32.ofNat L, v3, v4, w, x, t, lm) ⟨rfl, rfl, rfl, rfl, rfl, by show 0 ≤ x.toInt; omega, by show x.toInt ≤ (m : Int); omega, ?_⟩ (show (13 - x.toInt).toNat < (13 - v6.toInt).toNat by omega)
        show (w = 0 ∧ ¬ ∃ i : Nat, (i : Int) < x.toInt ∧ _) ∨ _
        rw [e]; exact hw
      refine ok_ite (fun d => ?_) (fun d => ?_)
      · have nt : ¬ ∃ i : Nat, (i : Int) < v6.toInt ∧ rw11 t i = v4.toInt.toNat := by
          rcases alt with ⟨-, z⟩ | ⟨z, -⟩
          · exact z
          · exact absurd d z
        clear alt
        have r6 := ht.2 v6.toInt.toNat
        refine ok_gin (by omega) (by omega) ?_
        rw [show v6.toNatClampNeg = v6.toInt.toNat by omega]
        refine ok_ite (fun f => ?_) (fun f => ?_)
        · unfold fX12_closes_87
          exact on 1 (Or.inr ⟨by decide, v6.toInt.toNat, by omega, by unfold rw11; rw [f]⟩)
        · refine on 0 (Or.inl ⟨rfl, ?_⟩)
          rintro ⟨i, y1, y2⟩
          by_cases w : i = v6.toInt.toNat
          · rw [w] at y2
            unfold rw11 at y2
            exact f (Int32.toInt_inj.mp (by omega))
          · exact nt ⟨i, by omega, y2⟩
      · unfold fX12_closes_87
        refine on 1 (Or.inr ⟨by decide, ?_⟩)
        rcases alt with ⟨z, -⟩ | ⟨-, z⟩
        · exact absurd z d
        · exact z
  · refine ⟨rfl, rfl, rfl, rfl, rfl, by show 0 ≤ (0 : Int32).toInt; omega, by show (0 : Int32).toInt ≤ (m : Int); omega, Or.inl ⟨rfl, ?_⟩⟩
    rintro ⟨i, y1, -⟩
    replace y1 : (i : Int) < (0 : Int32).toInt := y1
    omega
set_option maxHeartbeats 4000000 in
theorem cl_b {t : Sg} {m : Nat} {rc : Int32 × Int32 × Sg × Lg → Option (Int32 × Sg × Lg)} (hH : (sm 1 0).toInt = (H : Int)) (H12 : H ≤ 12) (L2 : 2 ≤ L) (L12 : L ≤ 12) (hmL : m ≤ L) (ht : F11 sm t) (hx : PFX sm H t m)
    (hrc : m < L → ∀ t', F11 sm t' → PFX sm H t' (m + 1) → Ok (CLq sm lm H L t' (m + 1)) (rc (Int32.ofNat (m + 1), Int32.ofNat L, t', lm))) : Ok (CLq sm lm H L t m) (bX12_closes rc (Int32.ofNat m) (Int32.ofNat L) t lm) := by
  have k0 : (0 : Int32).toInt = 0 := by decide
  have kc : (0 : Int32).toNatClampNeg = 0 := by decide
  have m1 := hx.1
  have om := ofn_x (X := m) (by omega)
  have oL := ofn_x (X := L) (by omega)
  have sb := sub_c (a := Int32.ofNat m) (b := (1 : Int32)) 1 (by decide) (by omega) (by omega)
  have eN : ∀ a b, eM sm H a b → a < H ∧ b < H := fun a b z => ⟨z.1, z.2.1⟩
  unfold bX12_closes
  refine ok_lt (fun x1 g1 => ?_)
  rw [← g1] at sb
  have hc1 := cl_i (i := x1) (by omega)
  refine ok_gin (by omega) (by omega) ?_
  rw [show x1.toNatClampNeg = m - 1 by omega]
  refine ok_lt (fun x3 g3 => ?_)
  have r3 := ht.2 (m - 1)
  rw [← g3] at r3
  have e3 : rw11 t (m - 1) = x3.toInt.toNat := by unfold rw11; rw [g3]
  have r0 := ht.2 0
  refine ok_ite (fun c => ?_) (fun c => ?_)
  · have mL : m = L := by
      have := congrArg Int32.toInt c
      omega
    refine ok_gin (by decide) (by decide) ?_
    rw [kc]
    have ix := ix12 (a := x3) (b := t 11 0) r3.1 r3.2 r0.1 r0.2
    refine ok_lt (fun x8 g8 => ?_)
    rw [g8]
    refine ok_gin (by omega) (by omega) ?_
    rw [ht.1 10 (by decide), ix.1]
    have e0 : rw11 t 0 = (t 11 0).toInt.toNat := rfl
    refine ok_ite (fun d => ?_) (fun d => ?_)
    · replace d := i_le.mp d
      rw [k0] at d
      refine ok_some ⟨rfl, ht, fun _ _ => rfl, Or.inr ⟨rfl, fun p hv hpp => ?_⟩⟩
      have ed := hv.2.2.1
      rw [hpp (L - 1) (by omega), hpp 0 (by omega), ← mL, e3, e0] at ed
      have := ed.2.2
      omega
    · replace d := i_nle.mp d
      rw [k0] at d
      have vr : VRg (eM sm H) L (rw11 t) := by
        refine ⟨L2, fun i hi => hx.2.2.1 i (by omega), ?_, fun i a b => hx.2.2.2.1 i a (by omega), fun i j a b => hx.2.2.2.2 i j a (by omega)⟩
        refine ⟨hx.2.1 _ (by omega), hx.2.1 _ (by omega), ?_⟩
        rw [← mL, e3, e0]
        exact d
      exact ok_some ⟨rfl, ht, fun _ _ => rfl, Or.inl ⟨rfl, vr, fun p hv hpp => Or.inl (fun i hi => (hpp i (by omega)).symm)⟩⟩
  · have mL : m < L := by
      have : m ≠ L := fun z => c (by rw [z])
      omega
    refine ok_gin (by decide) (by decide) ?_
    rw [kc]
    have ad := add_c (a := t 11 0) (b := (1 : Int32)) 1 (by decide) (by omega) (by omega)
    refine ok_lt (fun x6 g6 => ?_)
    rw [← g6] at ad
    unfold LX12_closes_49
    refine ok_loop (I := fun (z : Int32 × Int32 × Int32 × Int32 × Sg × Lg) => z.1 = Int32.ofNat m ∧ z.2.1 = Int32.ofNat L ∧ z.2.2.1 = x3 ∧ 1 ≤ z.2.2.2.1.toInt ∧ z.2.2.2.1.toInt ≤ 12 ∧ z.2.2.2.2.2 = lm ∧ F11 sm z.2.2.2.2.1 ∧ (∀ i, i < m → z.2.2.2.2.1 11 i = t 11 i) ∧ (t 11 0).toInt < z.2.2.2.1.toInt ∧ ∀ p, VRg (eM sm H) L p → (∀ i, i < m → p i = rw11 t i) → z.2.2.2.1.toInt ≤ (p m : Int)) (m := fun (z : Int32 × Int32 × Int32 × Int32 × Sg × Lg) => (13 - z.2.2.2.1.toInt).toNat) _ ?_ ?_ _ ?_
    · intro z hz
      have := hz.2.2.2.1
      show (13 - z.2.2.2.1.toInt).toNat < 10000
      omega
    · intro rec z hz hrec
      obtain ⟨a1, a2, a3, v4, s, l⟩ := z
      replace hz : a1 = Int32.ofNat m ∧ a2 = Int32.ofNat L ∧ a3 = x3 ∧ 1 ≤ v4.toInt ∧ v4.toInt ≤ 12 ∧ l = lm ∧ F11 sm s ∧ (∀ i, i < m → s 11 i = t 11 i) ∧ (t 11 0).toInt < v4.toInt ∧ ∀ p, VRg (eM sm H) L p → (∀ i, i < m → p i = rw11 t i) → v4.toInt ≤ (p m : Int) := hz
      obtain ⟨e1, e2, e3', b0, b1, e4, hs, ps, lo, hq⟩ := hz
      rw [e1, e2, e3', e4]
      show Ok _ (fX12_closes_49 rc rec (Int32.ofNat m) (Int32.ofNat L) x3 v4 s lm)
      unfold fX12_closes_49
      refine bnd3_of hens_is ?_
      rw [hs.1 1 (by decide)]
      have er : ∀ i, i < m → rw11 s i = rw11 t i := fun i hi => by unfold rw11; rw [ps i hi]
      refine ok_ite (fun d => ?_) (fun d => ?_)
      · replace d := i_le.mp d
        rw [hH] at d
        refine ok_some ⟨rfl, hs, ps, Or.inr ⟨rfl, fun p hv hpp => ?_⟩⟩
        have := hq p hv hpp
        have := VRg_in eN hv m mL
        omega
      · replace d := i_nle.mp d
        rw [hH] at d
        refine cl_64 (P := CLq sm lm H L t m) H12 m1 mL L12 hs (by rw [g3, ps (m - 1) (by omega)]) (by omega) d (by rw [er _ (by omega)]; exact hx.2.1 _ (by omega)) (fun t' x f' p' ex why => ?_) (fun t' nt ed f' p' r' => ?_) (fun t' f' p' r' vr lx => ?_)
        · refine hrec (Int32.ofNat m, Int32.ofNat L, x3, x, t', lm) ⟨rfl, rfl, rfl, by show 1 ≤ x.toInt; omega, by show x.toInt ≤ 12; omega, rfl, f', fun i hi => by show t' 11 i = t 11 i; rw [p' i hi]; exact ps i hi, by show (t 11 0).toInt < x.toInt; omega, fun p hv hpp => ?_⟩ (show (13 - x.toInt).toNat < (13 - v4.toInt).toNat by omega)
          show x.toInt ≤ (p m : Int)
          have le := hq p hv hpp
          have ne : p m ≠ v4.toInt.toNat := by
            rcases why with ⟨i, y1, y2⟩ | y | y
            · intro z
              rw [er i y1, ← hpp i y1] at y2
              exact hv.2.2.2.2 i m y1 mL (by rw [y2, z])
            · intro z
              have ed := hv.2.1 (m - 1) (by omega)
              rw [show m - 1 + 1 = m by omega, z, hpp (m - 1) (by omega), ← er (m - 1) (by omega)] at ed
              exact y ed
            · exact y p hv (fun i hi => by rw [er i hi]; exact hpp i hi)
          omega
        · have er' : ∀ i, i < m → rw11 t' i = rw11 t i := fun i hi => by unfold rw11; rw [p' i hi, ps i hi]
          have v40 : rw11 t 0 < v4.toInt.toNat := by
            have : rw11 t 0 = (t 11 0).toInt.toNat := rfl
            omega
          refine hrc mL t' f' ⟨by omega, fun i hi => ?_, fun i hi => ?_, fun i a b => ?_, fun i j a b => ?_⟩
          · by_cases w : i = m
            · rw [w, r']; omega
            · rw [er' i (by omega)]; exact hx.2.1 i (by omega)
          · by_cases w : i + 1 = m
            · rw [w, r', er' i (by omega), ← er i (by omega), show i = m - 1 by omega]; exact ed
            · rw [er' i (by omega), er' (i + 1) (by omega)]; exact hx.2.2.1 i (by omega)
          · rw [er' 0 (by omega)]
            by_cases w : i = m
            · rw [w, r']; exact v40
            · rw [er' i (by omega)]; exact hx.2.2.2.1 i a (by omega)
          · rw [er' i (by omega)]
            by_cases w : j = m
            · rw [w, r']
              intro z
              exact nt ⟨i, by omega, by rw [er i (by omega)]; exact z⟩
            · rw [er' j (by omega)]; exact hx.2.2.2.2 i j a (by omega)
        · have er' : ∀ i, i < m → rw11 t' i = rw11 t i := fun i hi => by unfold rw11; rw [p' i hi, ps i hi]
          refine ⟨rfl, f', fun i hi => by show t' 11 i = t 11 i; rw [p' i hi]; exact ps i hi, Or.inl ⟨rfl, vr, fun p hv hpp => ?_⟩⟩
          have le := hq p hv hpp
          by_cases w : p m = v4.toInt.toNat
          · refine lx p hv (fun i hi => ?_)
            by_cases y : i = m
            · rw [y, w, r']
            · rw [hpp i (by omega)]; exact (er' i (by omega)).symm
          · refine Or.inr ⟨m, mL, fun i hi => ?_, ?_⟩
            · show rw11 t' i = p i
              rw [er' i hi, hpp i hi]
            · show rw11 t' m < p m
              rw [r']; omega
    · refine ⟨rfl, rfl, rfl, by show 1 ≤ x6.toInt; omega, by show x6.toInt ≤ 12; omega, rfl, ht, fun _ _ => rfl, by show (t 11 0).toInt < x6.toInt; omega, fun p hv hpp => ?_⟩
      show x6.toInt ≤ (p m : Int)
      have a := hv.2.2.2.1 m (by omega) mL
      rw [hpp 0 (by omega)] at a
      have : rw11 t 0 = (t 11 0).toInt.toNat := rfl
      omega
theorem cl_main (hH : (sm 1 0).toInt = (H : Int)) (H12 : H ≤ 12) (L2 : 2 ≤ L) (L12 : L ≤ 12) : ∀ d m t, L - m < d → m ≤ L → F11 sm t → PFX sm H t m → Ok (CLq sm lm H L t m) (itr (fun rc z => bX12_closes rc z.1 z.2.1 z.2.2.1 z.2.2.2) d (Int32.ofNat m, Int32.ofNat L, t, lm))
  | 0, m, t, h, _, _, _ => absurd h (Nat.not_lt_zero _)
  | d + 1, m, t, h, hm, ht, hx => by
    show Ok _ (bX12_closes (itr (fun rc z => bX12_closes rc z.1 z.2.1 z.2.2.1 z.2.2.2) d) (Int32.ofNat m) (Int32.ofNat L) t lm)
    exact cl_b hH H12 L2 L12 hm ht hx (fun hlt t' f' x' => cl_main hH H12 L2 L12 d (m + 1) t' (by omega) (by omega) f' x')
def RNq (sm : Sg) (lm : Lg) (H : Nat) (q : Int32 × Sg × Lg) : Prop := q.2.2 = lm ∧ F11 sm q.2.1 ∧ ((q.1 = 0 ∧ ∀ L p, ¬ VRg (eM sm H) L p) ∨ ∃ L, q.1 = Int32.ofNat L ∧ 2 ≤ L ∧ L ≤ 12 ∧ LRg (eM sm H) L (rw11 q.2.1))
set_option maxHeartbeats 4000000 in
theorem m_ringNext {t0 : Sg} (hH : (sm 1 0).toInt = (H : Int)) (H12 : H ≤ 12) (ht0 : F11 sm t0) : Ok (RNq sm lm H) (fX12_ringNext t0 lm) := by
  have k0 : (0 : Int32).toInt = 0 := by decide
  have k2 : (2 : Int32).toInt = 2 := by decide
  have kc : (0 : Int32).toNatClampNeg = 0 := by decide
  have eN : ∀ a b, eM sm H a b → a < H ∧ b < H := fun a b z => ⟨z.1, z.2.1⟩
  unfold fX12_ringNext LX12_ringNext_2
  refine ok_loop (I := fun (z : Int32 × Sg × Lg) => 2 ≤ z.1.toInt ∧ z.1.toInt ≤ 13 ∧ z.2.2 = lm ∧ F11 sm z.2.1 ∧ ∀ L p, VRg (eM sm H) L p → z.1.toInt ≤ (L : Int)) (m := fun (z : Int32 × Sg × Lg) => (14 - z.1.toInt).toNat) _ ?_ ?_ _ ?_
  · intro z hz
    have := hz.1
    show (14 - z.1.toInt).toNat < 10000
    omega
  · intro rec z hz hrec
    obtain ⟨v1, t, l⟩ := z
    replace hz : 2 ≤ v1.toInt ∧ v1.toInt ≤ 13 ∧ l = lm ∧ F11 sm t ∧ ∀ L p, VRg (eM sm H) L p → v1.toInt ≤ (L : Int) := hz
    obtain ⟨b0, b1, e1, ht, hq⟩ := hz
    rw [e1]
    show Ok _ (fX12_ringNext_2 rec v1 t lm)
    unfold fX12_ringNext_2
    refine bnd3_of hens_is ?_
    rw [ht.1 1 (by decide)]
    refine ok_ite (fun c => ?_) (fun c => ?_)
    · replace c := i_lt.mp c
      rw [hH] at c
      refine ok_some ⟨rfl, ht, Or.inl ⟨rfl, fun L p hv => ?_⟩⟩
      have := hq L p hv
      have := VRg_len eN hv
      omega
    · replace c := i_nlt.mp c
      rw [hH] at c
      obtain ⟨L, hL⟩ : ∃ L : Nat, v1.toInt = (L : Int) := ⟨v1.toInt.toNat, by omega⟩
      have eL : v1 = Int32.ofNat L := by
        have := of_i (v := v1) (by omega)
        rw [this, show v1.toInt.toNat = L by omega]
      unfold LX12_ringNext_12
      refine ok_loop (I := fun (z : Int32 × Int32 × Sg × Lg) => z.1 = v1 ∧ 0 ≤ z.2.1.toInt ∧ z.2.1.toInt ≤ 12 ∧ z.2.2.2 = lm ∧ F11 sm z.2.2.1 ∧ ∀ p, VRg (eM sm H) L p → z.2.1.toInt ≤ (p 0 : Int)) (m := fun (z : Int32 × Int32 × Sg × Lg) => (13 - z.2.1.toInt).toNat) _ ?_ ?_ _ ?_
      · intro z hz
        have := hz.2.1
        show (13 - z.2.1.toInt).toNat < 10000
        omega
      · intro rec2 z hz hrec2
        obtain ⟨a1, v2, s, l2⟩ := z
        replace hz : a1 = v1 ∧ 0 ≤ v2.toInt ∧ v2.toInt ≤ 12 ∧ l2 = lm ∧ F11 sm s ∧ ∀ p, VRg (eM sm H) L p → v2.toInt ≤ (p 0 : Int) := hz
        obtain ⟨e2, d0, d1, e3, hs, hp⟩ := hz
        rw [e2, e3]
        show Ok _ (fX12_ringNext_12 rec rec2 v1 v2 s lm)
        unfold fX12_ringNext_12
        refine bnd3_of hens_is ?_
        rw [hs.1 1 (by decide)]
        refine ok_ite (fun d => ?_) (fun d => ?_)
        · replace d := i_le.mp d
          rw [hH] at d
          refine ok_lt (fun x e => ?_)
          replace e : x.toInt = v1.toInt + 1 := by rw [e]; exact add_c 1 (by decide) (by omega) (by omega)
          refine hrec (x, s, lm) ⟨by show 2 ≤ x.toInt; omega, by show x.toInt ≤ 13; omega, rfl, hs, fun L' p hv => ?_⟩ (show (14 - x.toInt).toNat < (14 - v1.toInt).toNat by omega)
          show x.toInt ≤ (L' : Int)
          have a := hq L' p hv
          by_cases w : L' = L
          · rw [w] at hv
            have := hp p hv
            have := VRg_in eN hv 0 (by omega)
            omega
          · omega
        · replace d := i_nle.mp d
          rw [hH] at d
          refine ok_gin (by decide) (by decide) ?_
          refine ok_lt (fun s8 e8 => ?_)
          rw [kc] at e8
          have f8 : F11 sm s8 := by
            refine ⟨fun c hc => by rw [e8, up2_n hc]; exact hs.1 c hc, fun j => ?_⟩
            by_cases w : j = 0
            · rw [w, e8, up2_e]; omega
            · rw [e8, up2_o (Or.inr w)]; exact hs.2 j
          have r8 : rw11 s8 0 = v2.toInt.toNat := by unfold rw11; rw [e8, up2_e]
          have px : PFX sm H s8 1 := by
            refine ⟨Nat.le_refl _, fun i hi => ?_, fun i hi => by omega, fun i a b => by omega, fun i j a b => by omega⟩
            rw [show i = 0 by omega, r8]; omega
          have cm := cl_main (lm := lm) hH H12 (L := L) (by omega) (by omega) 20 1 s8 (by omega) (by omega) f8 px
          have cm' : Ok (CLq sm lm H L s8 1) (fX12_closes (1 : Int32) v1 s8 lm) := by
            unfold fX12_closes
            rw [eL]
            exact cm
          refine ok_bnd3 cm' (fun y9 s10 l11 h9 => ?_)
          obtain ⟨g1, g2, g3, g4⟩ := h9
          replace g1 : l11 = lm := g1
          replace g2 : F11 sm s10 := g2
          rw [g1]
          rcases g4 with ⟨y1, y2, y3⟩ | ⟨y1, y2⟩
          · replace y1 : y9 = 1 := y1
            replace y2 : VRg (eM sm H) L (rw11 s10) := y2
            replace y3 : ∀ p, VRg (eM sm H) L p → (∀ i, i < 1 → p i = rw11 s8 i) → LXl L (rw11 s10) p := y3
            replace g3 : ∀ i, i < 1 → s10 11 i = s8 11 i := g3
            rw [y1, ite1]
            refine ok_some ⟨rfl, g2, Or.inr ⟨L, eL, by omega, by omega, y2, fun L' q hv => by have := hq L' q hv; omega, fun q hv => ?_⟩⟩
            have a := hp q hv
            by_cases w : q 0 = v2.toInt.toNat
            · refine y3 q hv (fun i hi => ?_)
              rw [show i = 0 by omega, w, r8]
            · refine Or.inr ⟨0, by omega, fun i hi => absurd hi (Nat.not_lt_zero _), ?_⟩
              show rw11 s10 0 < q 0
              have : rw11 s10 0 = v2.toInt.toNat := by unfold rw11; rw [g3 0 (by omega)]; exact r8
              omega
          · replace y1 : y9 = 0 := y1
            replace y2 : ∀ p, VRg (eM sm H) L p → ¬ ∀ i, i < 1 → p i = rw11 s8 i := y2
            rw [y1, ite0]
            refine ok_lt (fun x e => ?_)
            replace e : x.toInt = v2.toInt + 1 := by rw [e]; exact add_c 1 (by decide) (by omega) (by omega)
            refine hrec2 (v1, x, s10, lm) ⟨rfl, by show 0 ≤ x.toInt; omega, by show x.toInt ≤ 12; omega, rfl, g2, fun p hv => ?_⟩ (show (13 - x.toInt).toNat < (13 - v2.toInt).toNat by omega)
            show x.toInt ≤ (p 0 : Int)
            have a := hp p hv
            have : p 0 ≠ v2.toInt.toNat := fun z => y2 p hv (fun i hi => by rw [show i = 0 by omega, z, r8])
            omega
      · refine ⟨rfl, by show 0 ≤ (0 : Int32).toInt; omega, by show (0 : Int32).toInt ≤ 12; omega, rfl, ht, fun p _ => ?_⟩
        show (0 : Int32).toInt ≤ (p 0 : Int)
        omega
  · refine ⟨by show 2 ≤ (2 : Int32).toInt; omega, by show (2 : Int32).toInt ≤ 13; omega, rfl, ht0, fun L p hv => ?_⟩
    show (2 : Int32).toInt ≤ (L : Int)
    have := hv.1
    omega
end
/-! rings: shares, and what is left -/
def nxi (L i : Nat) : Nat := if i + 1 < L then i + 1 else 0
theorem nxi_lt {L i : Nat} (h : 0 < L) : nxi L i < L := by
  unfold nxi
  split <;> omega
def mnI (c : Int) (f : Nat → Int) : Nat → Int
  | 0 => c
  | k + 1 => if f k < mnI c f k then f k else mnI c f k
theorem mnI_le {c : Int} {f : Nat → Int} : ∀ k, mnI c f k ≤ c ∧ ∀ i, i < k → mnI c f k ≤ f i
  | 0 => ⟨Int.le_refl _, fun i hi => absurd hi (Nat.not_lt_zero _)⟩
  | k + 1 => by
    obtain ⟨h1, h2⟩ := mnI_le (c := c) (f := f) k
    have e : mnI c f (k + 1) = if f k < mnI c f k then f k else mnI c f k := rfl
    rw [e]
    split
    · rename_i z
      refine ⟨by omega, fun i hi => ?_⟩
      by_cases w : i = k
      · rw [w]; exact Int.le_refl _
      · have := h2 i (by omega); omega
    · rename_i z
      refine ⟨h1, fun i hi => ?_⟩
      by_cases w : i = k
      · rw [w]; omega
      · exact h2 i (by omega)
theorem mnI_at {c : Int} {f : Nat → Int} : ∀ k, mnI c f k = c ∨ ∃ i, i < k ∧ mnI c f k = f i
  | 0 => Or.inl rfl
  | k + 1 => by
    have e : mnI c f (k + 1) = if f k < mnI c f k then f k else mnI c f k := rfl
    rw [e]
    split
    · exact Or.inr ⟨k, by omega, rfl⟩
    · rcases mnI_at (c := c) (f := f) k with z | ⟨i, z1, z2⟩
      · exact Or.inl z
      · exact Or.inr ⟨i, by omega, z2⟩
theorem mnI_hit {c : Int} {f : Nat → Int} {k : Nat} (h0 : 0 < k) (h : ∀ i, i < k → f i ≤ c) : ∃ i, i < k ∧ mnI c f k = f i := by
  rcases mnI_at (c := c) (f := f) k with z | z
  · refine ⟨0, h0, ?_⟩
    have a := (mnI_le (c := c) (f := f) k).2 0 h0
    have b := h 0 h0
    omega
  · exact z
theorem mnI_two {c d : Int} {f : Nat → Int} {k : Nat} (h0 : 0 < k) (hc : ∀ i, i < k → f i ≤ c) (hd : ∀ i, i < k → f i ≤ d) : mnI c f k = mnI d f k := by
  obtain ⟨i, a1, a2⟩ := mnI_hit h0 hc
  obtain ⟨j, b1, b2⟩ := mnI_hit h0 hd
  have x := (mnI_le (c := c) (f := f) k).2 j b1
  have y := (mnI_le (c := d) (f := f) k).2 i a1
  omega
theorem mnI_cg {c : Int} {f g : Nat → Int} : ∀ k, (∀ i, i < k → f i = g i) → mnI c f k = mnI c g k
  | 0, _ => rfl
  | k + 1, h => by
    have ih := mnI_cg (c := c) (f := f) (g := g) k (fun i hi => h i (by omega))
    show (if f k < mnI c f k then f k else mnI c f k) = (if g k < mnI c g k then g k else mnI c g k)
    rw [ih, h k (by omega)]
def eW (W : Nat → Nat → Int) (a b : Nat) : Prop := a < 12 ∧ b < 12 ∧ 0 < W a b
def shr (W : Nat → Nat → Int) (L : Nat) (p : Nat → Nat) : Int := mnI 1000000 (fun i => W (p i) (p (nxi L i))) L
/-- the pecks of a ring -/
def onR (L : Nat) (p : Nat → Nat) (a b : Nat) : Prop := ∃ i, i < L ∧ a = p i ∧ b = p (nxi L i)
noncomputable def lfW (W : Nat → Nat → Int) (L : Nat) (p : Nat → Nat) (a b : Nat) : Int := @ite _ (onR L p a b) (Classical.propDecidable _) (W a b - shr W L p) (W a b)
theorem lfW_p {W : Nat → Nat → Int} {L : Nat} {p : Nat → Nat} {a b : Nat} (h : onR L p a b) : lfW W L p a b = W a b - shr W L p := if_pos h
theorem lfW_n {W : Nat → Nat → Int} {L : Nat} {p : Nat → Nat} {a b : Nat} (h : ¬ onR L p a b) : lfW W L p a b = W a b := if_neg h
theorem onR_cg {L : Nat} {p q : Nat → Nat} (h : ∀ i, i < L → p i = q i) (L0 : 0 < L) (a b : Nat) : onR L p a b ↔ onR L q a b := by
  constructor
  · rintro ⟨i, x, y, z⟩
    exact ⟨i, x, by rw [← h i x]; exact y, by rw [← h _ (nxi_lt L0)]; exact z⟩
  · rintro ⟨i, x, y, z⟩
    exact ⟨i, x, by rw [h i x]; exact y, by rw [h _ (nxi_lt L0)]; exact z⟩
theorem shr_cg {W : Nat → Nat → Int} {L : Nat} {p q : Nat → Nat} (h : ∀ i, i < L → p i = q i) (L0 : 0 < L) : shr W L p = shr W L q := by
  unfold shr
  refine mnI_cg L (fun i hi => ?_)
  rw [h i hi, h _ (nxi_lt L0)]
theorem lfW_cg {W : Nat → Nat → Int} {L : Nat} {p q : Nat → Nat} (h : ∀ i, i < L → p i = q i) (L0 : 0 < L) : lfW W L p = lfW W L q := by
  funext a b
  by_cases c : onR L p a b
  · rw [lfW_p c, lfW_p ((onR_cg h L0 a b).mp c), shr_cg h L0]
  · rw [lfW_n c, lfW_n (fun z => c ((onR_cg h L0 a b).mpr z))]
theorem VRg_nx {e : Nat → Nat → Prop} {L : Nat} {p : Nat → Nat} (h : VRg e L p) : ∀ i, i < L → e (p i) (p (nxi L i)) := by
  intro i hi
  unfold nxi
  by_cases c : i + 1 < L
  · rw [if_pos c]; exact h.2.1 i c
  · rw [if_neg c, show i = L - 1 by omega]; exact h.2.2.1
/-- weights that are none below nought nor too great -/
def WB (W : Nat → Nat → Int) : Prop := ∀ a b, 0 ≤ W a b ∧ W a b ≤ 1000000
theorem shr_bd {W : Nat → Nat → Int} {L : Nat} {p : Nat → Nat} (hW : WB W) (h : VRg (eW W) L p) : 1 ≤ shr W L p ∧ shr W L p ≤ 1000000 ∧ (∀ i, i < L → shr W L p ≤ W (p i) (p (nxi L i))) ∧ ∃ i, i < L ∧ shr W L p = W (p i) (p (nxi L i)) := by
  have L0 : 0 < L := by have := h.1; omega
  obtain ⟨i, a1, a2⟩ := mnI_hit (c := 1000000) (f := fun i => W (p i) (p (nxi L i))) L0 (fun i _ => (hW _ _).2)
  have le := mnI_le (c := 1000000) (f := fun i => W (p i) (p (nxi L i))) L
  have pos := (VRg_nx h i a1).2.2
  exact ⟨by unfold shr; omega, le.1, le.2, i, a1, a2⟩
theorem lfW_WB {W : Nat → Nat → Int} {L : Nat} {p : Nat → Nat} (hW : WB W) (h : VRg (eW W) L p) : WB (lfW W L p) := by
  intro a b
  have s := shr_bd hW h
  have w := hW a b
  by_cases c : onR L p a b
  · rw [lfW_p c]
    obtain ⟨i, x, y, z⟩ := c
    have := s.2.2.1 i x
    rw [← y, ← z] at this
    omega
  · rw [lfW_n c]; exact w
/-- how many pecks are left -/
noncomputable def npk (W : Nat → Nat → Int) : Nat := cnp (fun x => x / 12 ≠ x % 12 ∧ 0 < W (x / 12) (x % 12)) 144
theorem cnp_cn {p : Nat → Prop} {b : Nat → Bool} : ∀ n, (∀ j, j < n → p j → b j = true) → cnp p n ≤ cn b n
  | 0, _ => Nat.le_refl _
  | n + 1, h => by
    have ih := cnp_cn n (fun j hj => h j (by omega))
    have e : cn b (n + 1) = cn b n + (if b n then 1 else 0) := rfl
    show cnp p n + @ite _ (p n) (Classical.propDecidable _) 1 0 ≤ _
    rw [e]
    by_cases c : p n
    · rw [if_pos c, if_pos (h n (by omega) c)]; omega
    · rw [if_neg c]; omega
theorem npk_le {W : Nat → Nat → Int} : npk W ≤ 132 := by
  have a := cnp_cn (p := fun x => x / 12 ≠ x % 12 ∧ 0 < W (x / 12) (x % 12)) (b := fun x => decide (x / 12 ≠ x % 12)) 144 (fun j _ z => decide_eq_true z.1)
  have b : cn (fun x => decide (x / 12 ≠ x % 12)) 144 = 132 := by decide +kernel
  unfold npk
  omega
theorem npk_lt {W : Nat → Nat → Int} {L : Nat} {p : Nat → Nat} (hW : WB W) (h : VRg (eW W) L p) : npk (lfW W L p) < npk W := by
  have s := shr_bd hW h
  obtain ⟨i, i1, i2⟩ := s.2.2.2
  have ed := VRg_nx h i i1
  have L0 : 0 < L := by omega
  have L2 := h.1
  have ne : p i ≠ p (nxi L i) := by
    unfold nxi
    by_cases c : i + 1 < L
    · rw [if_pos c]; exact h.2.2.2.2 i (i + 1) (by omega) c
    · rw [if_neg c]; exact fun z => h.2.2.2.2 0 i (by omega) i1 z.symm
  have d1 : (12 * p i + p (nxi L i)) / 12 = p i := by have := ed.2.1; omega
  have d2 : (12 * p i + p (nxi L i)) % 12 = p (nxi L i) := by have := ed.2.1; omega
  unfold npk
  refine cnp_lt (i := 12 * p i + p (nxi L i)) (fun z => ?_) ⟨by rw [d1, d2]; exact ne, by rw [d1, d2]; exact ed.2.2⟩ 144 (by have := ed.1; have := ed.2.1; omega) (fun j _ z => ⟨z.1, ?_⟩)
  · have y := z.2
    rw [d1, d2, lfW_p ⟨i, i1, rfl, rfl⟩] at y
    omega
  · have y := z.2
    by_cases c : onR L p (j / 12) (j % 12)
    · rw [lfW_p c] at y; omega
    · rw [lfW_n c] at y; exact y
theorem npk_0 {W : Nat → Nat → Int} (h : npk W = 0) : ∀ L p, ¬ VRg (eW W) L p := by
  intro L p hv
  have ed : eW W (p 0) (p 1) := hv.2.1 0 (by have := hv.1; omega)
  have ne := hv.2.2.2.2 0 1 (by omega) (by have := hv.1; omega)
  have d1 : (12 * p 0 + p 1) / 12 = p 0 := by have := ed.2.1; omega
  have d2 : (12 * p 0 + p 1) % 12 = p 1 := by have := ed.2.1; omega
  refine cnp_0 144 h (12 * p 0 + p 1) (by have := ed.1; have := ed.2.1; omega) ⟨by rw [d1, d2]; exact ne, ?_⟩
  rw [d1, d2]; exact ed.2.2
/-! ring after ring -/
abbrev RgT := Nat → Nat × Int × (Nat → Nat)
def PkS (W0 : Nat → Nat → Int) (T : RgT) : Nat → (Nat → Nat → Int) → Int → Prop
  | 0, W, b => W = W0 ∧ b = 0
  | k + 1, W', b' => ∃ W b, PkS W0 T k W b ∧ LRg (eW W) (T k).1 (T k).2.2 ∧ (T k).2.1 = shr W (T k).1 (T k).2.2 ∧ W' = lfW W (T k).1 (T k).2.2 ∧ b' = b + (T k).2.1
theorem PkS_cg {W0 : Nat → Nat → Int} {T U : RgT} : ∀ k W b, PkS W0 T k W b → (∀ j, j < k → U j = T j) → PkS W0 U k W b
  | 0, _, _, h, _ => h
  | k + 1, W', b', h, e => by
    obtain ⟨W, b, h1, h2, h3, h4, h5⟩ := h
    refine ⟨W, b, PkS_cg k W b h1 (fun j hj => e j (by omega)), ?_⟩
    rw [e k (by omega)]
    exact ⟨h2, h3, h4, h5⟩
def TEq (x y : Nat × Int × (Nat → Nat)) : Prop := x.1 = y.1 ∧ x.2.1 = y.2.1 ∧ ∀ i, i < x.1 → x.2.2 i = y.2.2 i
theorem PkS_un {W0 : Nat → Nat → Int} {T U : RgT} : ∀ k W b W2 b2, PkS W0 T k W b → PkS W0 U k W2 b2 → W = W2 ∧ b = b2 ∧ ∀ j, j < k → TEq (T j) (U j)
  | 0, W, b, W2, b2, h, g => ⟨by rw [h.1, g.1], by rw [h.2, g.2], fun j hj => absurd hj (Nat.not_lt_zero _)⟩
  | k + 1, W', b', W2', b2', h, g => by
    obtain ⟨W, b, h1, h2, h3, h4, h5⟩ := h
    obtain ⟨W2, b2, g1, g2, g3, g4, g5⟩ := g
    obtain ⟨e1, e2, e3⟩ := PkS_un k W b W2 b2 h1 g1
    subst e1 e2
    obtain ⟨u1, u2⟩ := LRg_un h2 g2
    have L0 : 0 < (T k).1 := by have := h2.1.1; omega
    have sh : (T k).2.1 = (U k).2.1 := by rw [h3, g3, shr_cg u2 L0, u1]
    refine ⟨by rw [h4, g4, lfW_cg u2 L0, u1], by rw [h5, g5, sh], fun j hj => ?_⟩
    by_cases w : j = k
    · rw [w]; exact ⟨u1, sh, u2⟩
    · exact e3 j (by omega)
theorem PkS_pre {W0 : Nat → Nat → Int} {T : RgT} {m : Nat} : ∀ k W b, PkS W0 T k W b → m < k → ∃ W1 b1, PkS W0 T m W1 b1 ∧ ∃ L p, VRg (eW W1) L p
  | 0, _, _, _, h => absurd h (Nat.not_lt_zero _)
  | k + 1, W', b', h, hm => by
    obtain ⟨W, b, h1, h2, h3, h4, h5⟩ := h
    by_cases w : m = k
    · rw [w]; exact ⟨W, b, h1, _, _, h2.1⟩
    · exact PkS_pre k W b h1 (by omega)
def PkF (W0 : Nat → Nat → Int) (T : RgT) (k : Nat) (b : Int) : Prop := ∃ W, PkS W0 T k W b ∧ ∀ L p, ¬ VRg (eW W) L p
theorem PkF_un {W0 : Nat → Nat → Int} {T U : RgT} {k m : Nat} {b c : Int} (h : PkF W0 T k b) (g : PkF W0 U m c) : k = m ∧ b = c ∧ ∀ j, j < k → TEq (T j) (U j) := by
  have key : ∀ {T U : RgT} {k m : Nat} {b c : Int}, PkF W0 T k b → PkF W0 U m c → ¬ k < m := by
    intro T U k m b c h g lt
    obtain ⟨W, h1, h2⟩ := h
    obtain ⟨W2, g1, -⟩ := g
    obtain ⟨W1, b1, p1, L, p, p2⟩ := PkS_pre m W2 c g1 lt
    obtain ⟨e1, -, -⟩ := PkS_un k W b W1 b1 h1 p1
    subst e1
    exact h2 L p p2
  have e : k = m := by
    have a := key h g
    have b := key g h
    omega
  subst e
  obtain ⟨W, h1, -⟩ := h
  obtain ⟨W2, g1, -⟩ := g
  exact ⟨rfl, (PkS_un k W b W2 c h1 g1).2⟩
theorem PkS_inv {W0 : Nat → Nat → Int} {T : RgT} (hW : WB W0) : ∀ k W b, PkS W0 T k W b → WB W ∧ npk W + k ≤ 132 ∧ ∀ a b, W0 a b = 0 → W a b = 0
  | 0, W, b, h => by
    rw [h.1]
    exact ⟨hW, by have := npk_le (W := W0); omega, fun _ _ z => z⟩
  | k + 1, W', b', h => by
    obtain ⟨W, b, h1, h2, h3, h4, h5⟩ := h
    obtain ⟨i1, i2, i3⟩ := PkS_inv hW k W b h1
    have lt := npk_lt i1 h2.1
    refine ⟨by rw [h4]; exact lfW_WB i1 h2.1, by rw [h4]; omega, fun a b z => ?_⟩
    rw [h4]
    have w0 := i3 a b z
    by_cases c : onR (T k).1 (T k).2.2 a b
    · exfalso
      obtain ⟨i, x, y1, y2⟩ := c
      have := (VRg_nx h2.1 i x).2.2
      rw [← y1, ← y2, w0] at this
      exact absurd this (by decide)
    · rw [lfW_n c]; exact w0
/-! rings: by slots and by hens; useUp -/
def unr (A : Sg) (s : Nat) : Nat := (A 17 s).toInt.toNat
def WC (A t : Sg) (W : Nat → Nat → Int) : Prop := (∀ a b, Ct A a → Ct A b → (t 40 (12 * rk A a + rk A b)).toInt = W a b) ∧ ∀ a b, ¬ (Ct A a ∧ Ct A b) → W a b = 0
section
variable {A t : Sg} {W : Nat → Nat → Int}
theorem unr_rk {h : Nat} (hM : MC A) (hc : Ct A h) : unr A (rk A h) = h := by
  have o := ofn_n hc.1
  unfold unr
  rw [(hM.2.1 _ hc.1 hc.2).1, o]
  rfl
theorem unr_ct {s : Nat} (hM : MC A) (hs : s < rk A 12) : Ct A (unr A s) ∧ rk A (unr A s) = s := by
  obtain ⟨h, h1, h2, h3⟩ := rk_onto (sg := A) 12 s hs
  have hc : Ct A h := ⟨h1, h2⟩
  have e := unr_rk hM hc
  rw [h3] at e
  rw [e]
  exact ⟨hc, h3⟩
theorem rk_lt_iff {a b : Nat} (ha : Ct A a) (hb : Ct A b) : rk A a < rk A b ↔ a < b := by
  constructor
  · intro z
    refine Nat.not_le.mp (fun y => ?_)
    have := rk_mono (sg := A) y
    omega
  · intro z
    have := rk_mono (sg := A) (show a + 1 ≤ b by omega)
    rw [rk_s ha.2] at this
    omega
theorem ed_sw {i j : Nat} (hM : MC A) (hw : WC A t W) (h : eS t (rk A 12) i j) : eW W (unr A i) (unr A j) := by
  obtain ⟨h1, h2, h3⟩ := h
  obtain ⟨a1, a2⟩ := unr_ct hM h1
  obtain ⟨b1, b2⟩ := unr_ct hM h2
  refine ⟨a1.1, b1.1, ?_⟩
  rw [← hw.1 _ _ a1 b1, a2, b2]
  exact h3
theorem ed_ws {a b : Nat} (hw : WC A t W) (h : eW W a b) : Ct A a ∧ Ct A b ∧ eS t (rk A 12) (rk A a) (rk A b) := by
  obtain ⟨h1, h2, h3⟩ := h
  have c : Ct A a ∧ Ct A b := Classical.byContradiction fun z => by
    rw [hw.2 a b z] at h3
    exact absurd h3 (by decide)
  refine ⟨c.1, c.2, rk_lt c.1.2 c.1.1, rk_lt c.2.2 c.2.1, ?_⟩
  rw [hw.1 a b c.1 c.2]
  exact h3
theorem vr_sw {L : Nat} {p : Nat → Nat} (hM : MC A) (hw : WC A t W) (h : VRg (eS t (rk A 12)) L p) : VRg (eW W) L (fun i => unr A (p i)) := by
  have lt := VRg_in (N := rk A 12) (fun a b z => ⟨z.1, z.2.1⟩) h
  refine ⟨h.1, fun i hi => ed_sw hM hw (h.2.1 i hi), ed_sw hM hw h.2.2.1, fun i a b => ?_, fun i j a b => ?_⟩
  · obtain ⟨c1, c2⟩ := unr_ct hM (lt 0 (by omega))
    obtain ⟨d1, d2⟩ := unr_ct hM (lt i b)
    have := h.2.2.2.1 i a b
    refine (rk_lt_iff c1 d1).mp ?_
    rw [c2, d2]; exact this
  · obtain ⟨c1, c2⟩ := unr_ct hM (lt i (by omega))
    obtain ⟨d1, d2⟩ := unr_ct hM (lt j b)
    intro z
    have z' : unr A (p i) = unr A (p j) := z
    rw [z', d2] at c2
    exact h.2.2.2.2 i j a b c2.symm
theorem vr_ct {L : Nat} {q : Nat → Nat} (hw : WC A t W) (h : VRg (eW W) L q) : ∀ i, i < L → Ct A (q i) := by
  intro i hi
  by_cases c : i + 1 < L
  · exact (ed_ws hw (h.2.1 i c)).1
  · rw [show i = L - 1 by omega]; exact (ed_ws hw h.2.2.1).1
theorem vr_ws {L : Nat} {q : Nat → Nat} (hw : WC A t W) (h : VRg (eW W) L q) : VRg (eS t (rk A 12)) L (fun i => rk A (q i)) := by
  have ct := vr_ct hw h
  refine ⟨h.1, fun i hi => (ed_ws hw (h.2.1 i hi)).2.2, (ed_ws hw h.2.2.1).2.2, fun i a b => (rk_lt_iff (ct 0 (by omega)) (ct i b)).mpr (h.2.2.2.1 i a b), fun i j a b z => ?_⟩
  exact h.2.2.2.2 i j a b (rk_inj (ct i (by omega)).2 (ct j b).2 z)
theorem lr_sw {L : Nat} {p : Nat → Nat} (hM : MC A) (hw : WC A t W) (h : LRg (eS t (rk A 12)) L p) : LRg (eW W) L (fun i => unr A (p i)) := by
  have lt := VRg_in (N := rk A 12) (fun a b z => ⟨z.1, z.2.1⟩) h.1
  refine ⟨vr_sw hM hw h.1, fun L' q hq => h.2.1 L' _ (vr_ws hw hq), fun q hq => ?_⟩
  have ct := vr_ct hw hq
  rcases h.2.2 _ (vr_ws hw hq) with z | ⟨k, k1, k2, k3⟩
  · refine Or.inl (fun i hi => ?_)
    show unr A (p i) = q i
    rw [z i hi]
    exact unr_rk hM (ct i hi)
  · refine Or.inr ⟨k, k1, fun i hi => ?_, ?_⟩
    · show unr A (p i) = q i
      rw [k2 i hi]
      exact unr_rk hM (ct i (by omega))
    · show unr A (p k) < q k
      obtain ⟨c1, c2⟩ := unr_ct hM (lt k k1)
      refine (rk_lt_iff c1 (ct k k1)).mp ?_
      rw [c2]; exact k3
end
section
variable {B t : Sg} {n L : Nat}
def V40 (t : Sg) (i j : Nat) : Int := (t 40 (12 * i + j)).toInt
theorem fpk_is {i : Nat} (hL : L ≤ 12) (hi : i < L) (r44 : ∀ j, 0 ≤ (t 44 j).toInt ∧ (t 44 j).toInt ≤ 11) : ∃ y, fX10_foundPeck (Int32.ofNat i) (Int32.ofNat L) t = some (y, t) ∧ y.toInt = 12 * (fd t i : Int) + (fd t (nxi L i) : Int) := by
  have oi := ofn_n (j := i) (by omega)
  have oL := ofn_x (X := L) (by omega)
  have ad := add_c (a := Int32.ofNat i) (b := (1 : Int32)) 1 (by decide) (by omega) (by omega)
  have ci := cl_i (i := Int32.ofNat i) (by omega)
  have ri := r44 i
  have key : ∀ (w : Int32) (j : Nat), w.toInt = (j : Int) → j < 12 → ∃ y, fX10_foundPeck_14 (Int32.ofNat i) w t = some (y, t) ∧ y.toInt = 12 * (fd t i : Int) + (fd t j : Int) := by
    intro w j hw hj
    have cw := cl_i (i := w) (by omega)
    have rj := r44 j
    have f1 := mul_r (a := t 44 i) (b := (12 : Int32)) 12 (by decide) (by omega) (by omega)
    have f2 := add_i (a := t 44 i * (12 : Int32)) (b := t 44 j) (by omega) (by omega)
    refine ⟨t 44 i * (12 : Int32) + t 44 j, ?_, ?_⟩
    · unfold fX10_foundPeck_14
      rw [gin_in (vin_i (by omega) (by omega)), gin_in (vin_i (by omega) (by omega)), show (Int32.ofNat i).toNatClampNeg = i by omega, show w.toNatClampNeg = j by omega]
    · unfold fd; omega
  unfold fX10_foundPeck nxi
  by_cases c : i + 1 < L
  · rw [if_pos c, if_neg (fun z => by have := i_le.mp z; omega)]
    exact key _ _ (by rw [ad, oi]; rfl) (by omega)
  · rw [if_neg c, if_pos (i_le.mpr (by omega))]
    exact key _ _ (by decide) (by omega)
/-- only what is left and the sets have changed -/
def F40 (B : Sg) (n : Nat) (t : Sg) : Prop := (∀ c, c ≠ 40 → c ≠ 41 → c ≠ 42 → t c = B c) ∧ ∀ a b, a < n → b < n → 0 ≤ (t 40 (12 * a + b)).toInt ∧ (t 40 (12 * a + b)).toInt ≤ 1000000
def onI (L : Nat) (p : Nat → Nat) (k a b : Nat) : Prop := ∃ i, i < k ∧ a = p i ∧ b = p (nxi L i)
def UUq (B : Sg) (n L : Nat) (sh : Int) (k : Nat) (t : Sg) : Prop := F40 B n t ∧ PBt t n ∧ (∀ a b, a < n → b < n → (onI L (fd B) k a b → V40 t a b = V40 B a b - sh) ∧ (¬ onI L (fd B) k a b → V40 t a b = V40 B a b))
set_option maxHeartbeats 4000000 in
theorem uu_34 {v2 : Int32} {sh : Int} (n12 : n ≤ 12) (hL2 : L ≤ 12) (hv : VRg (eS B n) L (fd B)) (r44 : ∀ j, 0 ≤ (B 44 j).toInt ∧ (B 44 j).toInt ≤ 11) (hsh : v2.toInt = sh) (s1 : 1 ≤ sh) (s2 : ∀ i, i < L → sh ≤ V40 B (fd B i) (fd B (nxi L i))) (h0 : UUq B n L sh 0 B) : Ok (fun q => q.1 = v2 ∧ UUq B n L sh L q.2) (LX10_useUp_34 (Int32.ofNat L, v2, (0 : Int32), B)) := by
  have k0 : (0 : Int32).toInt = 0 := by decide
  have k12 : (12 : Int32).toInt = 12 := by decide
  have oL := ofn_x (X := L) (by omega)
  have L0 : 0 < L := by have := hv.1; omega
  have lt := VRg_in (N := n) (fun a b z => ⟨z.1, z.2.1⟩) hv
  unfold LX10_useUp_34
  refine ok_loop (I := fun (q : Int32 × Int32 × Int32 × Sg) => q.1 = Int32.ofNat L ∧ q.2.1 = v2 ∧ 0 ≤ q.2.2.1.toInt ∧ q.2.2.1.toInt ≤ (L : Int) ∧ UUq B n L sh q.2.2.1.toInt.toNat q.2.2.2) (m := fun (q : Int32 × Int32 × Int32 × Sg) => (13 - q.2.2.1.toInt).toNat) _ ?_ ?_ _ ?_
  · intro q hq
    have := hq.2.2.1
    show (13 - q.2.2.1.toInt).toNat < 10000
    omega
  · intro rec q hq hrec
    obtain ⟨q1, q2, v3, t⟩ := q
    replace hq : q1 = Int32.ofNat L ∧ q2 = v2 ∧ 0 ≤ v3.toInt ∧ v3.toInt ≤ (L : Int) ∧ UUq B n L sh v3.toInt.toNat t := hq
    obtain ⟨e1, e2, b0, b1, hu⟩ := hq
    obtain ⟨hF, hp, hV⟩ := id hu
    rw [e1, e2]
    show Ok _ (fX10_useUp_34 rec (Int32.ofNat L) v2 v3 t)
    unfold fX10_useUp_34
    refine ok_ite (fun c => ?_) (fun c => ?_)
    · replace c := i_le.mp c
      rw [oL] at c
      refine ok_some ⟨rfl, ?_⟩
      rw [show v3.toInt.toNat = L by omega] at hu
      exact hu
    · replace c := i_nle.mp c
      rw [oL] at c
      have e44 : t 44 = B 44 := hF.1 44 (by decide) (by decide) (by decide)
      have efd : fd t = fd B := by funext i; unfold fd; rw [e44]
      obtain ⟨i, hi⟩ : ∃ i : Nat, v3.toInt = (i : Int) := ⟨v3.toInt.toNat, by omega⟩
      have ei : v3 = Int32.ofNat i := by
        have := of_i b0
        rw [this, show v3.toInt.toNat = i by omega]
      have ein : v3.toInt.toNat = i := by omega
      rw [ein] at hV
      obtain ⟨y2, f1, f2⟩ := fpk_is (t := t) (L := L) (i := i) hL2 (by omega) (by rw [e44]; exact r44)
      rw [efd] at f2
      rw [← ei] at f1
      refine bnd2_of f1 ?_
      have la := lt i (by omega)
      have lb := lt _ (nxi_lt (i := i) L0)
      generalize ha : fd B i = a at *
      generalize hb : fd B (nxi L i) = b at *
      have c2 := cl_i (i := y2) (by omega)
      have ey : y2.toNatClampNeg = 12 * a + b := by omega
      refine ok_gin (by omega) (by omega) ?_
      rw [ey]
      have notyet : ¬ onI L (fd B) i a b := by
        rintro ⟨k, k1, k2, -⟩
        rw [← ha] at k2
        exact hv.2.2.2.2 k i k1 (by omega) k2.symm
      have val := (hV a b la lb).2 notyet
      have s2' := s2 i (by omega)
      rw [ha, hb] at s2'
      have rng := hF.2 a b la lb
      unfold V40 at val s2'
      have sb := sub_i (a := t 40 (12 * a + b)) (b := v2) (by omega) (by omega)
      refine ok_lt (fun x6 e6 => ?_)
      rw [← e6] at sb
      refine ok_gin (by omega) (by omega) ?_
      refine ok_lt (fun s8 e8 => ?_)
      refine ok_gin (by omega) (by omega) ?_
      have e8v : s8 40 (12 * a + b) = x6 := by rw [e8, up2_e]
      rw [e8v]
      have F8' : F40 B n s8 := by
        refine ⟨fun c h1 h2 h3 => by rw [e8, up2_n h1]; exact hF.1 c h1 h2 h3, fun x y hx hy => ?_⟩
        by_cases w : 12 * x + y = 12 * a + b
        · rw [w, e8v]; omega
        · rw [e8, up2_o (Or.inr w)]; exact hF.2 x y hx hy
      -- the values afterwards
      have vals : ∀ s : Sg, s 40 = s8 40 → ∀ c d, c < n → d < n → (onI L (fd B) (i + 1) c d → V40 s c d = V40 B c d - sh) ∧ (¬ onI L (fd B) (i + 1) c d → V40 s c d = V40 B c d) := by
        intro s es c d hc hd
        unfold V40
        rw [es]
        by_cases w : c = a ∧ d = b
        · rw [w.1, w.2, e8v]
          refine ⟨fun _ => by omega, fun z => absurd ⟨i, by omega, by rw [ha], by rw [hb]⟩ z⟩
        · rw [e8, up2_o (Or.inr (by omega))]
          have old := hV c d hc hd
          unfold V40 at old
          refine ⟨fun z => old.1 ?_, fun z => old.2 (fun y => z ?_)⟩
          · obtain ⟨k, k1, k2, k3⟩ := z
            refine ⟨k, ?_, k2, k3⟩
            have : k ≠ i := fun y => w ⟨by rw [k2, y, ha], by rw [k3, y, hb]⟩
            omega
          · obtain ⟨k, k1, k2, k3⟩ := y
            exact ⟨k, by omega, k2, k3⟩
      have go : ∀ s : Sg, F40 B n s → PBt s n → s 40 = s8 40 → Ok (fun q => q.1 = v2 ∧ UUq B n L sh L q.2) (fX10_useUp_112 rec (Int32.ofNat L) v2 v3 s) := by
        intro s g1 g2 g3
        unfold fX10_useUp_112
        refine ok_lt (fun x e => ?_)
        replace e : x.toInt = v3.toInt + 1 := by rw [e]; exact add_c 1 (by decide) (by omega) (by omega)
        refine hrec (Int32.ofNat L, v2, x, s) ⟨rfl, rfl, by show 0 ≤ x.toInt; omega, by show x.toInt ≤ (L : Int); omega, g1, g2, ?_⟩ (show (13 - x.toInt).toNat < (13 - v3.toInt).toNat by omega)
        show ∀ c d, c < n → d < n → (onI L (fd B) x.toInt.toNat c d → _) ∧ _
        rw [show x.toInt.toNat = i + 1 by omega]
        exact vals s g3
      have was : eS t n a b := ⟨la, lb, by omega⟩
      have eSo : ∀ (s : Sg), s 40 = s8 40 → ∀ c d, ¬ (c = a ∧ d = b) → (eS s n c d ↔ eS t n c d) := by
        intro s es c d w
        unfold eS
        constructor
        · rintro ⟨x1, x2, x3⟩
          rw [es, e8, up2_o (Or.inr (by omega))] at x3
          exact ⟨x1, x2, x3⟩
        · rintro ⟨x1, x2, x3⟩
          refine ⟨x1, x2, ?_⟩
          rw [es, e8, up2_o (Or.inr (by omega))]
          exact x3
      refine ok_ite (fun d => ?_) (fun d => ?_)
      · have xz : x6.toInt = 0 := by rw [d]; exact k0
        have dv := div_i (a := y2) (b := (12 : Int32)) 12 (by decide) (by decide) (by omega)
        have dv' : (y2 / (12 : Int32)).toInt = (a : Int) := by rw [dv]; omega
        have mr := mul_r (a := y2 / (12 : Int32)) (b := (12 : Int32)) 12 (by decide) (by omega) (by omega)
        have md := sub_i (a := y2) (b := y2 / (12 : Int32) * (12 : Int32)) (by omega) (by omega)
        have md' : (y2 - y2 / (12 : Int32) * (12 : Int32)).toInt = (b : Int) := by omega
        refine ok_lt (fun x11 e11 => ?_)
        rw [← e11] at dv'
        have c11 := cl_i (i := x11) (by omega)
        refine ok_gin (by omega) (by omega) ?_
        have r41 := (hp.1 a la)
        have e41 : s8 41 = t 41 := by rw [e8, up2_n (by decide)]
        have e42 : s8 42 = t 42 := by rw [e8, up2_n (by decide)]
        rw [show x11.toNatClampNeg = a by omega, e41]
        have shb := shl_is (v := y2 - y2 / (12 : Int32) * (12 : Int32)) (by omega) (by omega)
        have cpb := tb_cpl (y := t 41 a) (v := (1 : Int32) <<< ((y2 - y2 / (12 : Int32) * (12 : Int32)) &&& 31)) r41.1 (by rw [shb]; exact Int.natCast_nonneg _)
        have alb := and_l (a := t 41 a) (b := ((1 : Int32) <<< ((y2 - y2 / (12 : Int32) * (12 : Int32)) &&& 31)) ^^^ (-1 : Int32)) r41.1
        refine ok_lt (fun x13 e13 => ?_)
        rw [← e13] at cpb alb
        refine ok_gin (by omega) (by omega) ?_
        refine ok_lt (fun s15 e15 => ?_)
        refine ok_lt (fun x16 e16 => ?_)
        rw [← e16] at md'
        have c16 := cl_i (i := x16) (by omega)
        refine ok_gin (by omega) (by omega) ?_
        have r42 := (hp.1 b lb)
        rw [show x16.toNatClampNeg = b by omega, show s15 42 = t 42 by rw [e15, up2_n (by decide)]; exact e42]
        have sha := shl_is (v := y2 / (12 : Int32)) (by rw [← e11]; omega) (by rw [← e11]; omega)
        have cpa := tb_cpl (y := t 42 b) (v := (1 : Int32) <<< ((y2 / (12 : Int32)) &&& 31)) r42.2.2.1 (by rw [sha]; exact Int.natCast_nonneg _)
        have ala := and_l (a := t 42 b) (b := ((1 : Int32) <<< ((y2 / (12 : Int32)) &&& 31)) ^^^ (-1 : Int32)) r42.2.2.1
        refine ok_lt (fun x18 e18 => ?_)
        rw [← e18] at cpa ala
        refine ok_gin (by omega) (by omega) ?_
        refine ok_lt (fun s20 e20 => ?_)
        have n40 : s20 40 = s8 40 := by rw [e20, up2_n (by decide), e15, up2_n (by decide)]
        have n41 : ∀ j, s20 41 j = if j = a then x13 else t 41 j := fun j => by
          rw [e20, up2_n (by decide), e15]
          by_cases w : j = a
          · rw [if_pos w, w, up2_e]
          · rw [if_neg w, up2_o (Or.inr w), e41]
        have n42 : ∀ j, s20 42 j = if j = b then x18 else t 42 j := fun j => by
          rw [e20]
          by_cases w : j = b
          · rw [if_pos w, w, up2_e]
          · rw [if_neg w, up2_o (Or.inr w), e15, up2_n (by decide), e42]
        have shb' : ((1 : Int32) <<< ((y2 - y2 / (12 : Int32) * (12 : Int32)) &&& 31)).toInt.toNat = 2 ^ b := by
          rw [shb, ← e16, md']; rfl
        have sha' : ((1 : Int32) <<< ((y2 / (12 : Int32)) &&& 31)).toInt.toNat = 2 ^ a := by
          rw [sha, ← e11, dv']; rfl
        have gone : ¬ eS s20 n a b := fun z => by
          have := z.2.2
          rw [n40, e8v] at this
          omega
        refine go s20 ⟨fun c h1 h2 h3 => by rw [e20, up2_n h3, e15, up2_n h2]; exact F8'.1 c h1 h2 h3, fun x y hx hy => by rw [n40]; exact F8'.2 x y hx hy⟩ ⟨fun j hj => ?_, fun c d hc => ?_, fun c d hd => ?_⟩ n40
        · rw [n41, n42]
          have r := hp.1 j hj
          refine ⟨?_, ?_, ?_, ?_⟩
          · split
            · omega
            · exact r.1
          · split
            · omega
            · exact r.2.1
          · split
            · omega
            · exact r.2.2.1
          · split
            · omega
            · exact r.2.2.2
        · rw [n41]
          by_cases w : c = a
          · rw [if_pos w, cpb d, shb', Nat.testBit_two_pow, Bool.and_eq_true, hp.2.1 a d la, Bool.not_eq_true', decide_eq_false_iff_not]
            by_cases w2 : d = b
            · rw [w, w2]
              exact ⟨fun z => absurd rfl z.2, fun z => absurd z gone⟩
            · rw [w, eSo s20 n40 a d (fun z => w2 z.2)]
              exact ⟨fun z => z.1, fun z => ⟨z, fun y => w2 y.symm⟩⟩
          · rw [if_neg w, hp.2.1 c d hc, eSo s20 n40 c d (fun z => w z.1)]
        · rw [n42]
          by_cases w : d = b
          · rw [if_pos w, cpa c, sha', Nat.testBit_two_pow, Bool.and_eq_true, hp.2.2 c b lb, Bool.not_eq_true', decide_eq_false_iff_not]
            by_cases w2 : c = a
            · rw [w, w2]
              exact ⟨fun z => absurd rfl z.2, fun z => absurd z gone⟩
            · rw [w, eSo s20 n40 c b (fun z => w2 z.1)]
              exact ⟨fun z => z.1, fun z => ⟨z, fun y => w2 y.symm⟩⟩
          · rw [if_neg w, hp.2.2 c d hd, eSo s20 n40 c d (fun z => w z.2)]
      · have xp : 0 < x6.toInt := by
          have : ¬ x6.toInt = 0 := fun z => d (Int32.toInt_inj.mp (by rw [z, k0]))
          omega
        have still : eS s8 n a b := ⟨la, lb, by rw [e8v]; exact xp⟩
        have same : ∀ c d, eS s8 n c d ↔ eS t n c d := fun c d => by
          by_cases w : c = a ∧ d = b
          · rw [w.1, w.2]; exact ⟨fun _ => was, fun _ => still⟩
          · exact eSo s8 rfl c d w
        have e41 : s8 41 = t 41 := by rw [e8, up2_n (by decide)]
        have e42 : s8 42 = t 42 := by rw [e8, up2_n (by decide)]
        refine go s8 F8' ⟨fun j hj => by rw [e41, e42]; exact hp.1 j hj, fun c d hc => by rw [e41, same]; exact hp.2.1 c d hc, fun c d hd => by rw [e42, same]; exact hp.2.2 c d hd⟩ rfl
  · exact ⟨rfl, rfl, by show 0 ≤ (0 : Int32).toInt; omega, by show (0 : Int32).toInt ≤ (L : Int); omega, h0⟩
set_option maxHeartbeats 4000000 in
theorem c_useUp (n12 : n ≤ 12) (hL2 : L ≤ 12) (hp : PBt B n) (hv : VRg (eS B n) L (fd B)) (r44 : ∀ j, 0 ≤ (B 44 j).toInt ∧ (B 44 j).toInt ≤ 11) (r40 : ∀ a b, a < n → b < n → 0 ≤ (B 40 (12 * a + b)).toInt ∧ (B 40 (12 * a + b)).toInt ≤ 1000000) : Ok (fun q => q.1.toInt = shr (V40 B) L (fd B) ∧ UUq B n L (shr (V40 B) L (fd B)) L q.2) (fX10_useUp (Int32.ofNat L) B) := by
  have k0 : (0 : Int32).toInt = 0 := by decide
  have oL := ofn_x (X := L) (by omega)
  have L0 : 0 < L := by have := hv.1; omega
  have lt := VRg_in (N := n) (fun a b z => ⟨z.1, z.2.1⟩) hv
  unfold fX10_useUp LX10_useUp_5
  refine ok_loop (I := fun (q : Int32 × Int32 × Int32 × Sg) => q.1 = Int32.ofNat L ∧ 0 ≤ q.2.2.1.toInt ∧ q.2.2.1.toInt ≤ (L : Int) ∧ q.2.2.2 = B ∧ q.2.1.toInt = mnI 1000000 (fun i => V40 B (fd B i) (fd B (nxi L i))) q.2.2.1.toInt.toNat) (m := fun (q : Int32 × Int32 × Int32 × Sg) => (13 - q.2.2.1.toInt).toNat) _ ?_ ?_ _ ?_
  · intro q hq
    have := hq.2.1
    show (13 - q.2.2.1.toInt).toNat < 10000
    omega
  · intro rec q hq hrec
    obtain ⟨q1, v2, v3, t⟩ := q
    replace hq : q1 = Int32.ofNat L ∧ 0 ≤ v3.toInt ∧ v3.toInt ≤ (L : Int) ∧ t = B ∧ v2.toInt = mnI 1000000 (fun i => V40 B (fd B i) (fd B (nxi L i))) v3.toInt.toNat := hq
    obtain ⟨e1, b0, b1, e2, hs⟩ := hq
    rw [e1, e2]
    show Ok _ (fX10_useUp_5 rec (Int32.ofNat L) v2 v3 B)
    unfold fX10_useUp_5
    refine ok_ite (fun c => ?_) (fun c => ?_)
    · replace c := i_le.mp c
      rw [oL] at c
      rw [show v3.toInt.toNat = L by omega] at hs
      have le := mnI_le (c := 1000000) (f := fun i => V40 B (fd B i) (fd B (nxi L i))) L
      obtain ⟨i, i1, i2⟩ := mnI_hit (c := 1000000) (f := fun i => V40 B (fd B i) (fd B (nxi L i))) L0 (fun i hi => (r40 _ _ (lt i hi) (lt _ (nxi_lt L0))).2)
      have pos := (VRg_nx hv i i1).2.2
      have i2' : mnI 1000000 (fun i => V40 B (fd B i) (fd B (nxi L i))) L = (B 40 (12 * fd B i + fd B (nxi L i))).toInt := i2
      refine ok_mono (uu_34 (B := B) (n := n) (v2 := v2) (sh := shr (V40 B) L (fd B)) n12 hL2 hv r44 hs (by unfold shr; omega) (fun i hi => le.2 i hi) ⟨⟨fun _ _ _ _ => rfl, r40⟩, hp, fun a b _ _ => ⟨fun z => ?_, fun _ => rfl⟩⟩) (fun q hq => ⟨by rw [hq.1]; exact hs, hq.2⟩)
      obtain ⟨i, z, -⟩ := z
      exact absurd z (Nat.not_lt_zero _)
    · replace c := i_nle.mp c
      rw [oL] at c
      obtain ⟨i, hi⟩ : ∃ i : Nat, v3.toInt = (i : Int) := ⟨v3.toInt.toNat, by omega⟩
      have ei : v3 = Int32.ofNat i := by
        have := of_i b0
        rw [this, show v3.toInt.toNat = i by omega]
      obtain ⟨y2, f1, f2⟩ := fpk_is (t := B) (L := L) (i := i) hL2 (by omega) r44
      rw [← ei] at f1
      refine bnd2_of f1 ?_
      have la := lt i (by omega)
      have lb := lt _ (nxi_lt (i := i) L0)
      have c2 := cl_i (i := y2) (by omega)
      refine ok_gin (by omega) (by omega) ?_
      rw [show y2.toNatClampNeg = 12 * fd B i + fd B (nxi L i) by omega]
      refine ok_lt (fun x6 e6 => ?_)
      refine ok_lt (fun x e => ?_)
      replace e : x.toInt = v3.toInt + 1 := by rw [e]; exact add_c 1 (by decide) (by omega) (by omega)
      refine hrec (Int32.ofNat L, x6, x, B) ⟨rfl, by show 0 ≤ x.toInt; omega, by show x.toInt ≤ (L : Int); omega, rfl, ?_⟩ (show (13 - x.toInt).toNat < (13 - v3.toInt).toNat by omega)
      show x6.toInt = mnI 1000000 (fun i => V40 B (fd B i) (fd B (nxi L i))) x.toInt.toNat
      rw [show x.toInt.toNat = i + 1 by omega]
      rw [show v3.toInt.toNat = i by omega] at hs
      show x6.toInt = if V40 B (fd B i) (fd B (nxi L i)) < mnI 1000000 (fun i => V40 B (fd B i) (fd B (nxi L i))) i then V40 B (fd B i) (fd B (nxi L i)) else mnI 1000000 (fun i => V40 B (fd B i) (fd B (nxi L i))) i
      rw [← hs, e6]
      unfold V40
      by_cases w : B 40 (12 * fd B i + fd B (nxi L i)) < v2
      · rw [if_pos w, if_pos (i_lt.mp w)]
      · rw [if_neg w, if_neg (fun z => w (i_lt.mpr z))]
  · refine ⟨rfl, by show 0 ≤ (0 : Int32).toInt; omega, by show (0 : Int32).toInt ≤ (L : Int); omega, rfl, ?_⟩
    show (1000000 : Int32).toInt = mnI 1000000 _ (0 : Int32).toInt.toNat
    rw [k0]
    show (1000000 : Int32).toInt = 1000000
    decide
end
/-! rings: takeAllPecks, keepFound, packAll -/
theorem fill41 {t0 : Sg} : Ok (fun r => (∀ c, c ≠ 41 → r c = t0 c) ∧ (∀ j, j < 12 → r 41 j = 0) ∧ ∀ j, 12 ≤ j → r 41 j = t0 41 j) (fJ7_fill_53178_c41 (0 : Int32) t0) := by
  have k0 : (0 : Int32).toInt = 0 := by decide
  have k12 : (12 : Int32).toInt = 12 := by decide
  unfold fJ7_fill_53178_c41 LJ7_fill_53178_c41_5
  refine ok_loop (I := fun (q : Int32 × Int32 × Int32 × Sg) => q.1 = 0 ∧ q.2.2.1 = 12 ∧ 0 ≤ q.2.1.toInt ∧ q.2.1.toInt ≤ 12 ∧ (∀ c, c ≠ 41 → q.2.2.2 c = t0 c) ∧ (∀ j : Nat, (j : Int) < q.2.1.toInt → q.2.2.2 41 j = 0) ∧ ∀ j : Nat, 12 ≤ j → q.2.2.2 41 j = t0 41 j) (m := fun (q : Int32 × Int32 × Int32 × Sg) => (13 - q.2.1.toInt).toNat) _ ?_ ?_ _ ?_
  · intro q hq
    have := hq.2.2.1
    show (13 - q.2.1.toInt).toNat < 10000
    omega
  · intro rec q hq hrec
    obtain ⟨q1, v2, q3, t⟩ := q
    replace hq : q1 = 0 ∧ q3 = 12 ∧ 0 ≤ v2.toInt ∧ v2.toInt ≤ 12 ∧ (∀ c, c ≠ 41 → t c = t0 c) ∧ (∀ j : Nat, (j : Int) < v2.toInt → t 41 j = 0) ∧ ∀ j : Nat, 12 ≤ j → t 41 j = t0 41 j := hq
    obtain ⟨e1, e2, b0, b1, ft, hz, hy⟩ := hq
    rw [e1, e2]
    show Ok _ (fJ7_fill_53178_c41_5 rec 0 v2 12 t)
    unfold fJ7_fill_53178_c41_5
    have c2 := cl_i b0
    refine ok_ite (fun c => ?_) (fun c => ?_)
    · replace c := i_le.mp c
      exact ok_some ⟨ft, fun j hj => hz j (by omega), hy⟩
    · replace c := i_nle.mp c
      refine ok_gin (by omega) (by omega) ?_
      refine ok_lt (fun s3 e3 => ?_)
      rw [show v2.toNatClampNeg = v2.toInt.toNat by omega] at e3
      refine ok_lt (fun x e => ?_)
      replace e : x.toInt = v2.toInt + 1 := by rw [e]; exact add_c 1 (by decide) (by omega) (by omega)
      refine hrec (0, x, 12, s3) ⟨rfl, rfl, by show 0 ≤ x.toInt; omega, by show x.toInt ≤ _; omega, fun c hc => by show s3 c = t0 c; rw [e3, up2_n hc]; exact ft c hc, fun j hj => ?_, fun j hj => by show s3 41 j = t0 41 j; rw [e3, up2_o (Or.inr (by omega))]; exact hy j hj⟩ (show (13 - x.toInt).toNat < (13 - v2.toInt).toNat by omega)
      replace hj : (j : Int) < x.toInt := hj
      show s3 41 j = 0
      by_cases w : j = v2.toInt.toNat
      · rw [w, e3, up2_e]
      · rw [e3, up2_o (Or.inr w)]; exact hz j (by omega)
  · refine ⟨rfl, rfl, by show 0 ≤ (0 : Int32).toInt; omega, by show (0 : Int32).toInt ≤ 12; omega, fun _ _ => rfl, fun j hj => ?_, fun _ _ => rfl⟩
    replace hj : (j : Int) < (0 : Int32).toInt := hj
    omega
theorem fill42 {t0 : Sg} : Ok (fun r => (∀ c, c ≠ 42 → r c = t0 c) ∧ (∀ j, j < 12 → r 42 j = 0) ∧ ∀ j, 12 ≤ j → r 42 j = t0 42 j) (fJ7_fill_53178_c42 (0 : Int32) t0) := by
  have k0 : (0 : Int32).toInt = 0 := by decide
  have k12 : (12 : Int32).toInt = 12 := by decide
  unfold fJ7_fill_53178_c42 LJ7_fill_53178_c42_5
  refine ok_loop (I := fun (q : Int32 × Int32 × Int32 × Sg) => q.1 = 0 ∧ q.2.2.1 = 12 ∧ 0 ≤ q.2.1.toInt ∧ q.2.1.toInt ≤ 12 ∧ (∀ c, c ≠ 42 → q.2.2.2 c = t0 c) ∧ (∀ j : Nat, (j : Int) < q.2.1.toInt → q.2.2.2 42 j = 0) ∧ ∀ j : Nat, 12 ≤ j → q.2.2.2 42 j = t0 42 j) (m := fun (q : Int32 × Int32 × Int32 × Sg) => (13 - q.2.1.toInt).toNat) _ ?_ ?_ _ ?_
  · intro q hq
    have := hq.2.2.1
    show (13 - q.2.1.toInt).toNat < 10000
    omega
  · intro rec q hq hrec
    obtain ⟨q1, v2, q3, t⟩ := q
    replace hq : q1 = 0 ∧ q3 = 12 ∧ 0 ≤ v2.toInt ∧ v2.toInt ≤ 12 ∧ (∀ c, c ≠ 42 → t c = t0 c) ∧ (∀ j : Nat, (j : Int) < v2.toInt → t 42 j = 0) ∧ ∀ j : Nat, 12 ≤ j → t 42 j = t0 42 j := hq
    obtain ⟨e1, e2, b0, b1, ft, hz, hy⟩ := hq
    rw [e1, e2]
    show Ok _ (fJ7_fill_53178_c42_5 rec 0 v2 12 t)
    unfold fJ7_fill_53178_c42_5
    have c2 := cl_i b0
    refine ok_ite (fun c => ?_) (fun c => ?_)
    · replace c := i_le.mp c
      exact ok_some ⟨ft, fun j hj => hz j (by omega), hy⟩
    · replace c := i_nle.mp c
      refine ok_gin (by omega) (by omega) ?_
      refine ok_lt (fun s3 e3 => ?_)
      rw [show v2.toNatClampNeg = v2.toInt.toNat by omega] at e3
      refine ok_lt (fun x e => ?_)
      replace e : x.toInt = v2.toInt + 1 := by rw [e]; exact add_c 1 (by decide) (by omega) (by omega)
      refine hrec (0, x, 12, s3) ⟨rfl, rfl, by show 0 ≤ x.toInt; omega, by show x.toInt ≤ _; omega, fun c hc => by show s3 c = t0 c; rw [e3, up2_n hc]; exact ft c hc, fun j hj => ?_, fun j hj => by show s3 42 j = t0 42 j; rw [e3, up2_o (Or.inr (by omega))]; exact hy j hj⟩ (show (13 - x.toInt).toNat < (13 - v2.toInt).toNat by omega)
      replace hj : (j : Int) < x.toInt := hj
      show s3 42 j = 0
      by_cases w : j = v2.toInt.toNat
      · rw [w, e3, up2_e]
      · rw [e3, up2_o (Or.inr w)]; exact hz j (by omega)
  · refine ⟨rfl, rfl, by show 0 ≤ (0 : Int32).toInt; omega, by show (0 : Int32).toInt ≤ 12; omega, fun _ _ => rfl, fun j hj => ?_, fun _ _ => rfl⟩
    replace hj : (j : Int) < (0 : Int32).toInt := hj
    omega
section
variable {A : Sg} {n : Nat}
/-- which pairs have been taken -/
def Tk (v1 v2 i j : Nat) : Prop := i < v1 ∨ (i = v1 ∧ j < v2)
def TAq (A : Sg) (n v1 v2 : Nat) (t : Sg) : Prop := (∀ c, c ≠ 40 → c ≠ 41 → c ≠ 42 → t c = A c) ∧ (∀ i, i < n → 0 ≤ (t 41 i).toInt ∧ (t 41 i).toInt ≤ 4095 ∧ 0 ≤ (t 42 i).toInt ∧ (t 42 i).toInt ≤ 4095) ∧ (∀ i j, i < n → j < n → Tk v1 v2 i j → t 40 (12 * i + j) = A 23 (12 * i + j)) ∧ (∀ i j, i < n → ((t 41 i).toInt.toNat.testBit j = true ↔ (j < n ∧ Tk v1 v2 i j ∧ 0 < (A 23 (12 * i + j)).toInt))) ∧ ∀ i j, j < n → ((t 42 j).toInt.toNat.testBit i = true ↔ (i < n ∧ Tk v1 v2 i j ∧ 0 < (A 23 (12 * i + j)).toInt))
set_option maxHeartbeats 4000000 in
theorem ta_31 {s0 : Sg} {v1 : Int32} {P : Sg → Prop} {r18 : (Int32 × Sg) → Option Sg} (hn : (A 3 2).toInt = (n : Int)) (n12 : n ≤ 12) (a0 : 0 ≤ v1.toInt) (a1 : v1.toInt < (n : Int)) (h0 : TAq A n v1.toInt.toNat 0 s0)
    (hr : ∀ (x : Int32) (t : Sg), x.toInt = v1.toInt + 1 → TAq A n (v1.toInt.toNat + 1) 0 t → Ok P (r18 (x, t))) : Ok P (LX10_takeAllPecks_31 r18 (v1, (0 : Int32), s0)) := by
  have k0 : (0 : Int32).toInt = 0 := by decide
  have hc1 := cl_i a0
  unfold LX10_takeAllPecks_31
  refine ok_loop (I := fun (q : Int32 × Int32 × Sg) => q.1 = v1 ∧ 0 ≤ q.2.1.toInt ∧ q.2.1.toInt ≤ (n : Int) ∧ TAq A n v1.toInt.toNat q.2.1.toInt.toNat q.2.2) (m := fun (q : Int32 × Int32 × Sg) => (13 - q.2.1.toInt).toNat) _ ?_ ?_ _ ?_
  · intro q hq
    have := hq.2.1
    show (13 - q.2.1.toInt).toNat < 10000
    omega
  · intro rec q hq hrec
    obtain ⟨q1, v2, t⟩ := q
    replace hq : q1 = v1 ∧ 0 ≤ v2.toInt ∧ v2.toInt ≤ (n : Int) ∧ TAq A n v1.toInt.toNat v2.toInt.toNat t := hq
    obtain ⟨e1, b0, b1, ht⟩ := hq
    obtain ⟨fr, rg, v40, b41, b42⟩ := id ht
    rw [e1]
    show Ok P (fX10_takeAllPecks_31 r18 rec v1 v2 t)
    unfold fX10_takeAllPecks_31
    rw [fr 3 (by decide) (by decide) (by decide)]
    have hc2 := cl_i b0
    refine ok_ite (fun c => ?_) (fun c => ?_)
    · replace c := i_le.mp c
      rw [hn] at c
      refine ok_lt (fun x e => ?_)
      replace e : x.toInt = v1.toInt + 1 := by rw [e]; exact add_c 1 (by decide) (by omega) (by omega)
      have tk : ∀ i j, j < n → (Tk (v1.toInt.toNat + 1) 0 i j ↔ Tk v1.toInt.toNat v2.toInt.toNat i j) := fun i j hj => by unfold Tk; omega
      refine hr x t e ⟨fr, rg, fun i j hi hj z => v40 i j hi hj ((tk i j hj).mp z), fun i j hi => ?_, fun i j hj => ?_⟩
      · rw [b41 i j hi]
        constructor
        · rintro ⟨x1, x2, x3⟩; exact ⟨x1, (tk i j x1).mpr x2, x3⟩
        · rintro ⟨x1, x2, x3⟩; exact ⟨x1, (tk i j x1).mp x2, x3⟩
      · rw [b42 i j hj, tk i j hj]
    · replace c := i_nle.mp c
      rw [hn] at c
      have la : v1.toInt.toNat < n := by omega
      have lb : v2.toInt.toNat < n := by omega
      refine bnd2_of (peckOf_c a0 (by omega) b0 (by omega)) ?_
      rw [fr 23 (by decide) (by decide) (by decide), show v1.toNatClampNeg = v1.toInt.toNat by omega, show v2.toNatClampNeg = v2.toInt.toNat by omega]
      generalize ha : v1.toInt.toNat = a at *
      generalize hb : v2.toInt.toNat = b at *
      have ix := ix_c (v1 := v1) (v2 := v2) a0 (by omega) b0 (by omega)
      refine ok_gin (by omega) (by omega) ?_
      rw [ix.1, show v1.toNatClampNeg = a by omega, show v2.toNatClampNeg = b by omega]
      refine ok_lt (fun s7 e7 => ?_)
      have e40 : s7 40 (12 * a + b) = A 23 (12 * a + b) := by rw [e7, up2_e]
      have f7 : ∀ c, c ≠ 40 → s7 c = t c := fun c hc => by rw [e7, up2_n hc]
      have go : ∀ s : Sg, TAq A n a (b + 1) s → Ok P (fX10_takeAllPecks_92 r18 rec v1 v2 s) := by
        intro s hs
        unfold fX10_takeAllPecks_92
        refine ok_lt (fun x e => ?_)
        replace e : x.toInt = v2.toInt + 1 := by rw [e]; exact add_c 1 (by decide) (by omega) (by omega)
        refine hrec (v1, x, s) ⟨rfl, by show 0 ≤ x.toInt; omega, by show x.toInt ≤ (n : Int); omega, ?_⟩ (show (13 - x.toInt).toNat < (13 - v2.toInt).toNat by omega)
        show TAq A n a x.toInt.toNat s
        rw [show x.toInt.toNat = b + 1 by omega]
        exact hs
      have tk : ∀ i j, Tk a (b + 1) i j ↔ (Tk a b i j ∨ (i = a ∧ j = b)) := fun i j => by unfold Tk; omega
      have nt : ¬ Tk a b a b := by unfold Tk; omega
      have new40 : ∀ s : Sg, s 40 = s7 40 → ∀ i j, i < n → j < n → Tk a (b + 1) i j → s 40 (12 * i + j) = A 23 (12 * i + j) := by
        intro s es i j hi hj z
        rw [es]
        by_cases w : i = a ∧ j = b
        · rw [w.1, w.2]; exact e40
        · rw [e7, up2_o (Or.inr (by omega))]
          refine v40 i j hi hj ?_
          rcases (tk i j).mp z with y | y
          · exact y
          · exact absurd y w
      refine ok_ite (fun d => ?_) (fun d => ?_)
      · replace d := i_le.mp d
        rw [k0] at d
        refine go s7 ⟨fun c h1 h2 h3 => by rw [f7 c h1]; exact fr c h1 h2 h3, fun i hi => by rw [f7 41 (by decide), f7 42 (by decide)]; exact rg i hi, new40 s7 rfl, fun i j hi => ?_, fun i j hj => ?_⟩
        · rw [f7 41 (by decide), b41 i j hi]
          constructor
          · rintro ⟨x1, x2, x3⟩; exact ⟨x1, (tk i j).mpr (Or.inl x2), x3⟩
          · rintro ⟨x1, x2, x3⟩
            rcases (tk i j).mp x2 with y | y
            · exact ⟨x1, y, x3⟩
            · rw [y.1, y.2] at x3; omega
        · rw [f7 42 (by decide), b42 i j hj]
          constructor
          · rintro ⟨x1, x2, x3⟩; exact ⟨x1, (tk i j).mpr (Or.inl x2), x3⟩
          · rintro ⟨x1, x2, x3⟩
            rcases (tk i j).mp x2 with y | y
            · exact ⟨x1, y, x3⟩
            · rw [y.1, y.2] at x3; omega
      · replace d := i_nle.mp d
        rw [k0] at d
        have ra := rg a la
        have rb := rg b lb
        refine ok_gin (by omega) (by omega) ?_
        rw [f7 41 (by decide)]
        have tn1 := tset_n (set := t 41 a) (h := v2) ra.1 ra.2.1 b0 (by omega)
        have ti1 := tset_i (set := t 41 a) (h := v2) ra.1 ra.2.1 b0 (by omega)
        rw [hb] at tn1
        refine ok_lt (fun x10 e10 => ?_)
        rw [← e10] at tn1 ti1
        refine ok_gin (by omega) (by omega) ?_
        refine ok_lt (fun s12 e12 => ?_)
        refine ok_gin (by omega) (by omega) ?_
        rw [show s12 42 = t 42 by rw [e12, up2_n (by decide)]; exact f7 42 (by decide)]
        have tn2 := tset_n (set := t 42 b) (h := v1) rb.2.2.1 rb.2.2.2 a0 (by omega)
        have ti2 := tset_i (set := t 42 b) (h := v1) rb.2.2.1 rb.2.2.2 a0 (by omega)
        rw [ha] at tn2
        refine ok_lt (fun x14 e14 => ?_)
        rw [← e14] at tn2 ti2
        refine ok_gin (by omega) (by omega) ?_
        refine ok_lt (fun s16 e16 => ?_)
        have n41 : ∀ j, s16 41 j = if j = a then x10 else t 41 j := fun j => by
          rw [e16, up2_n (by decide), e12]
          by_cases w : j = a
          · rw [if_pos w, w, up2_e]
          · rw [if_neg w, up2_o (Or.inr w), f7 41 (by decide)]
        have n42 : ∀ j, s16 42 j = if j = b then x14 else t 42 j := fun j => by
          rw [e16]
          by_cases w : j = b
          · rw [if_pos w, w, up2_e]
          · rw [if_neg w, up2_o (Or.inr w), e12, up2_n (by decide), f7 42 (by decide)]
        refine go s16 ⟨fun c h1 h2 h3 => by rw [e16, up2_n h3, e12, up2_n h2, f7 c h1]; exact fr c h1 h2 h3, fun i hi => ?_, new40 s16 (by rw [e16, up2_n (by decide), e12, up2_n (by decide)]), fun i j hi => ?_, fun i j hj => ?_⟩
        · rw [n41, n42]
          have r := rg i hi
          refine ⟨?_, ?_, ?_, ?_⟩
          · split
            · omega
            · exact r.1
          · split
            · omega
            · exact r.2.1
          · split
            · omega
            · exact r.2.2.1
          · split
            · omega
            · exact r.2.2.2
        · rw [n41]
          by_cases w : i = a
          · rw [if_pos w, tn1, tb_or, Bool.or_eq_true, decide_eq_true_eq, b41 a j la, w]
            constructor
            · rintro (⟨x1, x2, x3⟩ | y)
              · exact ⟨x1, (tk a j).mpr (Or.inl x2), x3⟩
              · rw [← y]; exact ⟨lb, (tk a b).mpr (Or.inr ⟨rfl, rfl⟩), d⟩
            · rintro ⟨x1, x2, x3⟩
              rcases (tk a j).mp x2 with y | y
              · exact Or.inl ⟨x1, y, x3⟩
              · exact Or.inr y.2.symm
          · rw [if_neg w, b41 i j hi]
            constructor
            · rintro ⟨x1, x2, x3⟩; exact ⟨x1, (tk i j).mpr (Or.inl x2), x3⟩
            · rintro ⟨x1, x2, x3⟩
              rcases (tk i j).mp x2 with y | y
              · exact ⟨x1, y, x3⟩
              · exact absurd y.1 w
        · rw [n42]
          by_cases w : j = b
          · rw [if_pos w, tn2, tb_or, Bool.or_eq_true, decide_eq_true_eq, b42 i b lb, w]
            constructor
            · rintro (⟨x1, x2, x3⟩ | y)
              · exact ⟨x1, (tk i b).mpr (Or.inl x2), x3⟩
              · rw [← y]; exact ⟨la, (tk a b).mpr (Or.inr ⟨rfl, rfl⟩), d⟩
            · rintro ⟨x1, x2, x3⟩
              rcases (tk i b).mp x2 with y | y
              · exact Or.inl ⟨x1, y, x3⟩
              · exact Or.inr y.1.symm
          · rw [if_neg w, b42 i j hj]
            constructor
            · rintro ⟨x1, x2, x3⟩; exact ⟨x1, (tk i j).mpr (Or.inl x2), x3⟩
            · rintro ⟨x1, x2, x3⟩
              rcases (tk i j).mp x2 with y | y
              · exact ⟨x1, y, x3⟩
              · exact absurd y.2 w
  · exact ⟨rfl, by show 0 ≤ (0 : Int32).toInt; omega, by show (0 : Int32).toInt ≤ (n : Int); omega, h0⟩
set_option maxHeartbeats 4000000 in
theorem c_takeAll (hn : (A 3 2).toInt = (n : Int)) (n12 : n ≤ 12) : Ok (fun t => (∀ c, c ≠ 40 → c ≠ 41 → c ≠ 42 → t c = A c) ∧ PBt t n ∧ ∀ i j, i < n → j < n → t 40 (12 * i + j) = A 23 (12 * i + j)) (fX10_takeAllPecks A) := by
  have k0 : (0 : Int32).toInt = 0 := by decide
  unfold fX10_takeAllPecks
  refine ok_bnd1 (fill41 (t0 := A)) (fun s1 h1 => ?_)
  obtain ⟨f1, z1, -⟩ := h1
  refine ok_bnd1 (fill42 (t0 := s1)) (fun s3 h3 => ?_)
  obtain ⟨f3, z3, -⟩ := h3
  unfold LX10_takeAllPecks_18
  refine ok_loop (I := fun (q : Int32 × Sg) => 0 ≤ q.1.toInt ∧ q.1.toInt ≤ (n : Int) ∧ TAq A n q.1.toInt.toNat 0 q.2) (m := fun (q : Int32 × Sg) => (13 - q.1.toInt).toNat) _ ?_ ?_ _ ?_
  · intro q hq
    have := hq.1
    show (13 - q.1.toInt).toNat < 10000
    omega
  · intro rec q hq hrec
    obtain ⟨v1, t⟩ := q
    replace hq : 0 ≤ v1.toInt ∧ v1.toInt ≤ (n : Int) ∧ TAq A n v1.toInt.toNat 0 t := hq
    obtain ⟨b0, b1, ht⟩ := hq
    show Ok _ (fX10_takeAllPecks_18 rec v1 t)
    unfold fX10_takeAllPecks_18
    rw [ht.1 3 (by decide) (by decide) (by decide)]
    refine ok_ite (fun c => ?_) (fun c => ?_)
    · replace c := i_le.mp c
      rw [hn] at c
      obtain ⟨fr, rg, v40, b41, b42⟩ := ht
      have tk : ∀ i j, i < n → Tk v1.toInt.toNat 0 i j := fun i j hi => Or.inl (by omega)
      have eq : ∀ i j, eS t n i j ↔ (i < n ∧ j < n ∧ 0 < (A 23 (12 * i + j)).toInt) := fun i j => by
        unfold eS
        constructor
        · rintro ⟨x1, x2, x3⟩
          rw [v40 i j x1 x2 (tk i j x1)] at x3
          exact ⟨x1, x2, x3⟩
        · rintro ⟨x1, x2, x3⟩
          refine ⟨x1, x2, ?_⟩
          rw [v40 i j x1 x2 (tk i j x1)]
          exact x3
      refine ok_some ⟨fr, ⟨rg, fun i j hi => ?_, fun i j hj => ?_⟩, fun i j hi hj => v40 i j hi hj (tk i j hi)⟩
      · rw [b41 i j hi, eq]
        exact ⟨fun z => ⟨hi, z.1, z.2.2⟩, fun z => ⟨z.2.1, tk i j hi, z.2.2⟩⟩
      · rw [b42 i j hj, eq]
        exact ⟨fun z => ⟨z.1, hj, z.2.2⟩, fun z => ⟨z.1, tk i j z.1, z.2.2⟩⟩
    · replace c := i_nle.mp c
      rw [hn] at c
      refine ta_31 hn n12 b0 c ht (fun x t' ex ht' => ?_)
      refine hrec (x, t') ⟨by show 0 ≤ x.toInt; omega, by show x.toInt ≤ (n : Int); omega, ?_⟩ (show (13 - x.toInt).toNat < (13 - v1.toInt).toNat by omega)
      show TAq A n x.toInt.toNat 0 t'
      rw [show x.toInt.toNat = v1.toInt.toNat + 1 by omega]
      exact ht'
  · have e41 : ∀ i, i < 12 → s3 41 i = 0 := fun i hi => by rw [f3 41 (by decide)]; exact z1 i hi
    have nt : ∀ i j, ¬ Tk 0 0 i j := fun i j => by unfold Tk; omega
    refine ⟨by show 0 ≤ (0 : Int32).toInt; omega, by show (0 : Int32).toInt ≤ (n : Int); omega, ?_⟩
    show TAq A n (0 : Int32).toInt.toNat 0 s3
    rw [k0]
    refine ⟨fun c h1 h2 h3 => by rw [f3 c h3]; exact f1 c h2, fun i hi => by rw [e41 i (by omega), z3 i (by omega), k0]; omega, fun i j hi hj z => absurd z (nt i j), fun i j hi => ?_, fun i j hj => ?_⟩
    · rw [e41 i (by omega), k0, show (0 : Int).toNat = 0 from rfl, Nat.zero_testBit]
      exact ⟨fun z => absurd z (by decide), fun z => absurd z.2.1 (nt i j)⟩
    · rw [z3 j (by omega), k0, show (0 : Int).toNat = 0 from rfl, Nat.zero_testBit]
      exact ⟨fun z => absurd z (by decide), fun z => absurd z.2.1 (nt i j)⟩
end
