/-! what gather lays, cell by cell -/
def cnb (sg : Sg) (h : Nat) : Bool := decide ((h : Int) < (sg 1 0).toInt ∧ (sg 11 h = 4 → sg 13 h = 1))
theorem cnb_cnt {sg : Sg} {h : Nat} : cnb sg h = true ↔ cnt sg h := by unfold cnb cnt; exact decide_eq_true_iff
/-- how many count below a hen -/
def rk (sg : Sg) (n : Nat) : Nat := cn (cnb sg) n
theorem rk_s {sg : Sg} {n : Nat} (h : cnb sg n = true) : rk sg (n + 1) = rk sg n + 1 := by unfold rk cn; rw [if_pos h]; cases n <;> rfl
theorem rk_n {sg : Sg} {n : Nat} (h : cnb sg n = false) : rk sg (n + 1) = rk sg n := by unfold rk; rw [show cn (cnb sg) (n + 1) = cn (cnb sg) n + (if cnb sg n then 1 else 0) from rfl, h]; rfl
theorem rk_le (sg : Sg) (n : Nat) : rk sg n ≤ n := cn_max _ n
theorem rk_mono {sg : Sg} : ∀ {m n : Nat}, m ≤ n → rk sg m ≤ rk sg n := by
  intro m n h
  induction n with
  | zero => rw [show m = 0 by omega]; exact Nat.le_refl _
  | succ n ih =>
    by_cases c : m = n + 1
    · rw [c]; exact Nat.le_refl _
    · have h1 := ih (by omega)
      have h2 : rk sg n ≤ rk sg (n + 1) := by
        cases hc : cnb sg n
        · rw [rk_n hc]; exact Nat.le_refl _
        · rw [rk_s hc]; omega
      omega
theorem rk_lt {sg : Sg} {m n : Nat} (h : cnb sg m = true) (hm : m < n) : rk sg m < rk sg n := by
  have h1 := rk_s h
  have h2 := rk_mono (sg := sg) (show m + 1 ≤ n by omega)
  omega
theorem rk_inj {sg : Sg} {m n : Nat} (hm : cnb sg m = true) (hn : cnb sg n = true) (e : rk sg m = rk sg n) : m = n := by
  rcases Nat.lt_trichotomy m n with h | h | h
  · have := rk_lt hm h; omega
  · exact h
  · have := rk_lt hn h; omega
/-- each slot has its hen -/
theorem rk_onto {sg : Sg} : ∀ (n s : Nat), s < rk sg n → ∃ h, h < n ∧ cnb sg h = true ∧ rk sg h = s
  | 0, s, hs => absurd hs (Nat.not_lt_zero _)
  | n + 1, s, hs => by
    cases hc : cnb sg n
    · rw [rk_n hc] at hs
      obtain ⟨h, a, b, c⟩ := rk_onto n s hs
      exact ⟨h, by omega, b, c⟩
    · rw [rk_s hc] at hs
      by_cases w : s = rk sg n
      · exact ⟨n, by omega, hc, w.symm⟩
      · obtain ⟨h, a, b, c⟩ := rk_onto (sg := sg) n s (by omega)
        exact ⟨h, by omega, b, c⟩
def bt (x : Int32) (t : Nat) : Prop := ((x >>> (Int32.ofNat t &&& 31)) &&& (1 : Int32)) = (1 : Int32)
theorem g_pecks {v1 : Int32} {sg : Sg} (hI : IC0 sg) (v1l : 0 ≤ v1.toInt) (v1h : v1.toInt ≤ 11) : Ok (fun r => (∀ k, k ≠ 23 → r k = sg k) ∧ ∀ i, r 23 i = if 12 * v1.toNatClampNeg ≤ i ∧ i < 12 * v1.toNatClampNeg + (sg 3 2).toInt.toNat then sg 15 (12 * (sg 17 v1.toNatClampNeg).toNatClampNeg + (sg 17 (i - 12 * v1.toNatClampNeg)).toNatClampNeg) else sg 23 i) (fX8_gatherPecks v1 sg) := by
  have k0 : (0 : Int32).toInt = 0 := by decide
  have k1 : (1 : Int32).toInt = 1 := by decide
  have hn := rdC3_2 hI
  have hc := cl_i v1l
  unfold fX8_gatherPecks LX8_gatherPecks_2
  refine ok_loop (I := fun (q : Int32 × Int32 × Sg) => q.1 = v1 ∧ 0 ≤ q.2.1.toInt ∧ q.2.1.toInt ≤ (sg 3 2).toInt ∧ (∀ k, k ≠ 23 → q.2.2 k = sg k) ∧ ∀ i, q.2.2 23 i = if 12 * v1.toNatClampNeg ≤ i ∧ i < 12 * v1.toNatClampNeg + q.2.1.toInt.toNat then sg 15 (12 * (sg 17 v1.toNatClampNeg).toNatClampNeg + (sg 17 (i - 12 * v1.toNatClampNeg)).toNatClampNeg) else sg 23 i) (m := fun (q : Int32 × Int32 × Sg) => (13 - q.2.1.toInt).toNat) _ ?_ ?_ _ ?_
  · intro q hq
    have := hq.2.1
    show (13 - q.2.1.toInt).toNat < 10000
    omega
  · intro rec q hq hrec
    obtain ⟨a1, v2, s⟩ := q
    replace hq : a1 = v1 ∧ 0 ≤ v2.toInt ∧ v2.toInt ≤ (sg 3 2).toInt ∧ (∀ k, k ≠ 23 → s k = sg k) ∧ ∀ i, s 23 i = if 12 * v1.toNatClampNeg ≤ i ∧ i < 12 * v1.toNatClampNeg + v2.toInt.toNat then sg 15 (12 * (sg 17 v1.toNatClampNeg).toNatClampNeg + (sg 17 (i - 12 * v1.toNatClampNeg)).toNatClampNeg) else sg 23 i := hq
    obtain ⟨e1, q0, q1, q2, q3⟩ := hq
    subst e1
    show Ok _ (fX8_gatherPecks_2 rec a1 v2 s)
    unfold fX8_gatherPecks_2
    rw [q2 3 (by decide), q2 17 (by decide), q2 15 (by decide)]
    have hc2 := cl_i q0
    refine ok_ite (fun c => ?_) (fun c => ?_)
    · replace c := i_le.mp c
      refine ok_some ⟨q2, fun i => ?_⟩
      rw [q3 i, show v2.toInt.toNat = (sg 3 2).toInt.toNat by omega]
    · replace c := i_nle.mp c
      have r1 := rdC17 hI (j := a1.toNatClampNeg)
      have r2 := rdC17 hI (j := v2.toNatClampNeg)
      have ic := ix_c (v1 := sg 17 a1.toNatClampNeg) (v2 := sg 17 v2.toNatClampNeg) r1.1 r1.2 r2.1 (by omega)
      have id := ix_c (v1 := a1) (v2 := v2) v1l v1h q0 (by omega)
      refine ok_gin (by omega) (by omega) ?_
      refine ok_gin (by omega) (by omega) ?_
      refine ok_lt (fun x4 e4 => ?_)
      rw [e4]
      refine ok_gin (by omega) (by omega) ?_
      refine ok_lt (fun x6 e6 => ?_)
      refine ok_gin (by omega) (by omega) ?_
      refine ok_lt (fun s8 e8 => ?_)
      refine ok_lt (fun x9 e9 => ?_)
      replace e9 : x9.toInt = v2.toInt + 1 := by rw [e9]; exact add_c 1 k1 (by omega) (by omega)
      refine hrec (a1, x9, s8) ⟨rfl, by show 0 ≤ x9.toInt; omega, by show x9.toInt ≤ (sg 3 2).toInt; omega, fun k hk => ?_, fun i => ?_⟩ (show (13 - x9.toInt).toNat < (13 - v2.toInt).toNat by omega)
      · show s8 k = sg k
        rw [e8, up2_n hk]; exact q2 k hk
      · show s8 23 i = if 12 * a1.toNatClampNeg ≤ i ∧ i < 12 * a1.toNatClampNeg + x9.toInt.toNat then sg 15 (12 * (sg 17 a1.toNatClampNeg).toNatClampNeg + (sg 17 (i - 12 * a1.toNatClampNeg)).toNatClampNeg) else sg 23 i
        rw [e8, up2_is, id.1]
        by_cases w : 23 = 23 ∧ i = 12 * a1.toNatClampNeg + v2.toNatClampNeg
        · rw [if_pos w, if_pos (by omega), e6, ic.1, w.2, show 12 * a1.toNatClampNeg + v2.toNatClampNeg - 12 * a1.toNatClampNeg = v2.toNatClampNeg by omega]
        · rw [if_neg w, q3 i]
          by_cases z : 12 * a1.toNatClampNeg ≤ i ∧ i < 12 * a1.toNatClampNeg + v2.toInt.toNat
          · rw [if_pos z, if_pos (by omega)]
          · rw [if_neg z, if_neg (by omega)]
  · exact ⟨rfl, by show 0 ≤ (0 : Int32).toInt; omega, by show (0 : Int32).toInt ≤ (sg 3 2).toInt; omega, fun _ _ => rfl, fun i => by show sg 23 i = if 12 * v1.toNatClampNeg ≤ i ∧ i < 12 * v1.toNatClampNeg + (0 : Int32).toInt.toNat then _ else sg 23 i; rw [if_neg (by omega)]⟩
/-- the slot that a hen asks for -/
def wsl (sg : Sg) (h : Nat) : Int32 := if ¬ sg 11 h = 0 ∧ ¬ sg 11 h = 4 ∧ ¬ sg 12 h = -2000000005 then sg 18 (sg 12 h).toNatClampNeg else -1
/-- gatherAsking: the slot asked for, and the masks -/
def GA (sg : Sg) (s : Nat) (r : Sg) : Prop := (∀ k, k ≠ 20 → k ≠ 21 → k ≠ 22 → r k = sg k) ∧ (∀ i, r 20 i = if i = s then wsl sg (sg 17 s).toNatClampNeg else sg 20 i) ∧
  (∀ i, r 21 i = if ¬ wsl sg (sg 17 s).toNatClampNeg = -1 ∧ sg 19 s = 2 ∧ i = s then sg 21 i ||| ((1 : Int32) <<< (wsl sg (sg 17 s).toNatClampNeg &&& 31)) else if ¬ wsl sg (sg 17 s).toNatClampNeg = -1 ∧ ¬ sg 19 s = 2 ∧ i = (wsl sg (sg 17 s).toNatClampNeg).toNatClampNeg then sg 21 i ||| ((1 : Int32) <<< (Int32.ofNat s &&& 31)) else sg 21 i) ∧
  (∀ i, r 22 i = if ¬ wsl sg (sg 17 s).toNatClampNeg = -1 ∧ sg 19 s = 3 ∧ i = (wsl sg (sg 17 s).toNatClampNeg).toNatClampNeg then sg 22 i ||| ((1 : Int32) <<< (Int32.ofNat s &&& 31)) else sg 22 i)
theorem asf_is {v1 : Int32} {sg : Sg} (v1l : 0 ≤ v1.toInt) (v1h : v1.toInt ≤ 11) : fX2_asksForSomebody v1 sg = some (if ¬ sg 11 v1.toNatClampNeg = 0 ∧ ¬ sg 11 v1.toNatClampNeg = 4 ∧ ¬ sg 12 v1.toNatClampNeg = -2000000005 then 1 else 0, sg) := by
  unfold fX2_asksForSomebody
  rw [gin_in (vin_i (by omega) (by omega))]
  by_cases a : sg 11 v1.toNatClampNeg = 0
  · rw [if_pos a, if_neg (fun z => z.1 a)]
  · rw [if_neg a, gin_in (vin_i (by omega) (by omega))]
    by_cases b : sg 11 v1.toNatClampNeg = 4
    · rw [if_pos b, if_neg (fun z => z.2.1 b)]
    · rw [if_neg b, gin_in (vin_i (by omega) (by omega))]
      by_cases c : sg 12 v1.toNatClampNeg = -2000000005
      · rw [if_pos c, if_neg (fun z => z.2.2 c)]
      · rw [if_neg c, if_pos ⟨a, b, c⟩]
theorem g_asking {v1 : Int32} {sg : Sg} (hI : IC0 sg) (v1l : 0 ≤ v1.toInt) (v1h : v1.toInt ≤ 11) : Ok (GA sg v1.toNatClampNeg) (fX8_gatherAsking v1 sg) := by
  have km : (-1 : Int32).toInt = -1 := by decide
  have hc := cl_i v1l
  have hv : v1 = Int32.ofNat v1.toNatClampNeg := by
    have := of_i v1l
    rw [show v1.toInt.toNat = v1.toNatClampNeg by omega] at this
    exact this
  have r17 := rdC17 hI (j := v1.toNatClampNeg)
  have hc17 := cl_i (i := sg 17 v1.toNatClampNeg) r17.1
  -- the rest, with the slot that is asked for
  have rest : ∀ w : Int32, w = wsl sg (sg 17 v1.toNatClampNeg).toNatClampNeg → -1 ≤ w.toInt → w.toInt ≤ 11 → Ok (GA sg v1.toNatClampNeg) (fX8_gatherAsking_41 v1 w v1 sg) := by
    intro w hw w0 w1
    unfold fX8_gatherAsking_41
    refine ok_gin (by omega) (by omega) ?_
    refine ok_lt (fun s2 e2 => ?_)
    have a20 : s2 20 v1.toNatClampNeg = w := by rw [e2, up2_e]
    have a19 : s2 19 = sg 19 := by rw [e2, up2_n (by decide)]
    have a21 : s2 21 = sg 21 := by rw [e2, up2_n (by decide)]
    have a22 : s2 22 = sg 22 := by rw [e2, up2_n (by decide)]
    have f20 : ∀ i, s2 20 i = if i = v1.toNatClampNeg then wsl sg (sg 17 v1.toNatClampNeg).toNatClampNeg else sg 20 i := by
      intro i
      rw [e2, up2_is, ← hw]
      by_cases z : i = v1.toNatClampNeg
      · rw [if_pos ⟨rfl, z⟩, if_pos z]
      · rw [if_neg (fun y => z y.2), if_neg z]
    rw [a20, a19, a21]
    refine ok_gin (by omega) (by omega) ?_
    refine ok_ite (fun c => ?_) (fun c => ?_)
    · refine ok_some ⟨fun k x y z => by rw [e2, up2_n x], f20, fun i => ?_, fun i => ?_⟩
      · rw [a21, if_neg (fun z => z.1 (by rw [← hw]; exact c)), if_neg (fun z => z.1 (by rw [← hw]; exact c))]
      · rw [a22, if_neg (fun z => z.1 (by rw [← hw]; exact c))]
    · have c' := i_ne.mp c
      have cw : ¬ wsl sg (sg 17 v1.toNatClampNeg).toNatClampNeg = -1 := by rw [← hw]; exact c
      have hcw := cl_i (i := w) (by omega)
      -- region 100: the pairs
      have pr : ∀ s3 : Sg, (∀ k, k ≠ 21 → s3 k = s2 k) → (∀ i, s3 21 i = if ¬ wsl sg (sg 17 v1.toNatClampNeg).toNatClampNeg = -1 ∧ sg 19 v1.toNatClampNeg = 2 ∧ i = v1.toNatClampNeg then sg 21 i ||| ((1 : Int32) <<< (wsl sg (sg 17 v1.toNatClampNeg).toNatClampNeg &&& 31)) else if ¬ wsl sg (sg 17 v1.toNatClampNeg).toNatClampNeg = -1 ∧ ¬ sg 19 v1.toNatClampNeg = 2 ∧ i = (wsl sg (sg 17 v1.toNatClampNeg).toNatClampNeg).toNatClampNeg then sg 21 i ||| ((1 : Int32) <<< (Int32.ofNat v1.toNatClampNeg &&& 31)) else sg 21 i) → Ok (GA sg v1.toNatClampNeg) (fX8_gatherAsking_100 v1 s3) := by
        intro s3 p1 p2
        have b19 : s3 19 = sg 19 := by rw [p1 19 (by decide), a19]
        have b20 : s3 20 v1.toNatClampNeg = w := by rw [p1 20 (by decide), a20]
        have b22 : s3 22 = sg 22 := by rw [p1 22 (by decide), a22]
        unfold fX8_gatherAsking_100
        rw [b19, b20, b22]
        refine ok_gin (by omega) (by omega) ?_
        refine ok_ite (fun d => ?_) (fun d => ?_)
        · refine ok_gin (by omega) (by omega) ?_
          refine ok_lt (fun x4 e4 => ?_)
          subst e4
          refine ok_gin (by omega) (by omega) ?_
          refine ok_lt (fun x6 e6 => ?_)
          refine ok_gin (by omega) (by omega) ?_
          refine ok_lt (fun s8 e8 => ?_)
          refine ok_some ⟨fun k x y z => ?_, fun i => ?_, fun i => ?_, fun i => ?_⟩
          · rw [e8, up2_n z, p1 k y, e2, up2_n x]
          · rw [e8, up2_n (by decide), p1 20 (by decide)]; exact f20 i
          · rw [e8, up2_n (by decide)]; exact p2 i
          · rw [e8, up2_is, ← hw, e6, ← hv, b22]
            by_cases z : i = x4.toNatClampNeg
            · rw [if_pos ⟨rfl, z⟩, if_pos ⟨c, d, z⟩, z]
            · rw [if_neg (fun y => z y.2), if_neg (fun y => z y.2.2)]
        · refine ok_some ⟨fun k x y z => ?_, fun i => ?_, p2, fun i => ?_⟩
          · rw [p1 k y, e2, up2_n x]
          · rw [p1 20 (by decide)]; exact f20 i
          · rw [b22, if_neg (fun y => d y.2.1)]
      refine ok_gin (by omega) (by omega) ?_
      refine ok_ite (fun d => ?_) (fun d => ?_)
      · refine ok_gin (by omega) (by omega) ?_
        refine ok_gin (by omega) (by omega) ?_
        refine ok_lt (fun x15 e15 => ?_)
        refine ok_gin (by omega) (by omega) ?_
        refine ok_lt (fun s17 e17 => ?_)
        refine pr s17 (fun k hk => by rw [e17, up2_n hk]) (fun i => ?_)
        rw [e17, up2_is, a21, e15, ← hw]
        by_cases z : i = v1.toNatClampNeg
        · rw [if_pos ⟨rfl, z⟩, if_pos ⟨c, d, z⟩, z]
        · rw [if_neg (fun y => z y.2), if_neg (fun y => z y.2.2), if_neg (fun y => y.2.1 d)]
      · refine ok_gin (by omega) (by omega) ?_
        refine ok_lt (fun x8 e8 => ?_)
        subst e8
        refine ok_gin (by omega) (by omega) ?_
        refine ok_lt (fun x10 e10 => ?_)
        refine ok_gin (by omega) (by omega) ?_
        refine ok_lt (fun s12 e12 => ?_)
        refine pr s12 (fun k hk => by rw [e12, up2_n hk]) (fun i => ?_)
        rw [e12, up2_is, a21, e10, ← hw, ← hv]
        by_cases z : i = x8.toNatClampNeg
        · rw [if_pos ⟨rfl, z⟩, if_neg (fun y => d y.2.1), if_pos ⟨c, d, z⟩, z]
        · rw [if_neg (fun y => z y.2), if_neg (fun y => d y.2.1), if_neg (fun y => z y.2.2)]
  unfold fX8_gatherAsking
  refine ok_gin (by omega) (by omega) ?_
  refine ok_lt (fun x2 e2 => ?_)
  subst e2
  refine bnd2_of (asf_is r17.1 r17.2) ?_
  by_cases k : ¬ sg 11 (sg 17 v1.toNatClampNeg).toNatClampNeg = 0 ∧ ¬ sg 11 (sg 17 v1.toNatClampNeg).toNatClampNeg = 4 ∧ ¬ sg 12 (sg 17 v1.toNatClampNeg).toNatClampNeg = -2000000005
  · rw [if_pos k, ite1]
    have ra := rdC12 hI (j := (sg 17 v1.toNatClampNeg).toNatClampNeg)
    have rb : 0 ≤ (sg 12 (sg 17 v1.toNatClampNeg).toNatClampNeg).toInt := by
      rcases hI.2 12 (sg 17 v1.toNatClampNeg).toNatClampNeg (Or.inl rfl) with z | z
      · exact absurd z k.2.2
      · exact z
    refine ok_gin (by omega) (by omega) ?_
    refine ok_lt (fun x8 e8 => ?_)
    subst e8
    refine ok_gin (by omega) (by omega) ?_
    have r18 := rdC18 hI (j := (sg 12 (sg 17 v1.toNatClampNeg).toNatClampNeg).toNatClampNeg)
    exact rest _ (by unfold wsl; rw [if_pos k]) r18.1 r18.2
  · rw [if_neg k, ite0]
    exact rest _ (by unfold wsl; rw [if_neg k]) (by omega) (by omega)
theorem isc_b {v1 : Int32} {sg : Sg} (t2 : (sg 1 0).toInt ≤ 12) (h0 : 0 ≤ v1.toInt) : fX2_isCounted v1 sg = some (if cnb sg v1.toNatClampNeg = true then 1 else 0, sg) := by
  have hc := cl_i h0
  by_cases H : v1.toInt < (sg 1 0).toInt
  · rw [isCounted_is t2 h0 H]
    by_cases c : sg 11 v1.toNatClampNeg = 4 ∧ ¬ sg 13 v1.toNatClampNeg = 1
    · rw [if_pos c, if_neg (fun z => by simp only [cnb, decide_eq_true_eq] at z; exact c.2 (z.2 c.1))]
    · rw [if_neg c, if_pos (show cnb sg v1.toNatClampNeg = true from decide_eq_true ⟨by omega, fun z => Decidable.byContradiction fun y => c ⟨z, y⟩⟩)]
  · unfold fX2_isCounted
    rw [has0 (by omega), bnd2_s, ite0, if_neg (fun z => by simp only [cnb, decide_eq_true_eq] at z; omega)]
/-- hens up to v have their slots -/
def Ph1 (s0 sg : Sg) (v : Nat) : Prop := (∀ k, ¬ (k = 3 ∨ k = 17 ∨ k = 18 ∨ k = 19 ∨ k = 21 ∨ k = 22) → sg k = s0 k) ∧ (∀ j, j ≠ 2 → sg 3 j = s0 3 j) ∧ (sg 3 2).toInt = (rk s0 v : Int) ∧ (∀ h, h < v → cnb s0 h = true → sg 17 (rk s0 h) = Int32.ofNat h ∧ sg 18 h = Int32.ofNat (rk s0 h) ∧ sg 19 (rk s0 h) = s0 11 h ∧ sg 21 (rk s0 h) = 0 ∧ sg 22 (rk s0 h) = 0) ∧ (∀ h, h < v → cnb s0 h = false → sg 18 h = -1)
theorem cnb_cg {s0 sg : Sg} (h1 : sg 1 = s0 1) (h11 : sg 11 = s0 11) (h13 : sg 13 = s0 13) (h : Nat) : cnb sg h = cnb s0 h := by unfold cnb; rw [h1, h11, h13]
theorem ph1_skip {s0 sg sg3 : Sg} {v : Nat} (h : Ph1 s0 sg v) (e : sg3 = up2 sg 18 v (-1 : Int32)) (hn : cnb s0 v = false) : Ph1 s0 sg3 (v + 1) := by
  obtain ⟨p1, p2, p3, p4, p5⟩ := h
  refine ⟨fun k hk => ?_, fun j hj => ?_, ?_, fun x hx hc => ?_, fun x hx hc => ?_⟩
  · rw [e, up2_n (by omega)]; exact p1 k hk
  · rw [e, up2_n (by decide)]; exact p2 j hj
  · rw [e, up2_n (by decide), rk_n hn]; exact p3
  · have ne : x ≠ v := fun z => by rw [z, hn] at hc; cases hc
    have q := p4 x (by omega) hc
    rw [e, up2_n (by decide), up2_o (by omega), up2_n (by decide), up2_n (by decide), up2_n (by decide)]
    exact q
  · by_cases w : x = v
    · rw [e, w, up2_e]
    · rw [e, up2_o (by omega)]; exact p5 x (by omega) hc
theorem ph1_put {s0 sg s3 s10 s12 s16 s18 s20 s22 : Sg} {v1 x8 x21 : Int32} (hI : (s0 1 0).toInt ≤ 12) (v0 : 0 ≤ v1.toInt) (h : Ph1 s0 sg v1.toNatClampNeg) (hc : cnb s0 v1.toNatClampNeg = true) (h8 : x8 = sg 3 2) (e3 : s3 = up2 sg 18 v1.toNatClampNeg (-1 : Int32)) (e10 : s10 = up2 s3 18 v1.toNatClampNeg x8) (e12 : s12 = up2 s10 17 (sg 3 2).toNatClampNeg v1) (e16 : s16 = up2 s12 19 (sg 3 2).toNatClampNeg (s0 11 v1.toNatClampNeg)) (e18 : s18 = up2 s16 21 (sg 3 2).toNatClampNeg (0 : Int32)) (e20 : s20 = up2 s18 22 (sg 3 2).toNatClampNeg (0 : Int32)) (h21 : x21.toInt = (sg 3 2).toInt + 1) (e22 : s22 = up2 s20 3 2 x21) : Ph1 s0 s22 (v1.toNatClampNeg + 1) := by
  obtain ⟨p1, p2, p3, p4, p5⟩ := h
  have cv := cl_i v0
  have nn := cl_i (i := sg 3 2) (by omega)
  have en : (sg 3 2).toNatClampNeg = rk s0 v1.toNatClampNeg := by omega
  have ev : v1 = Int32.ofNat v1.toNatClampNeg := by
    have := of_i v0
    rw [show v1.toInt.toNat = v1.toNatClampNeg by omega] at this
    exact this
  have e8 : x8 = Int32.ofNat (rk s0 v1.toNatClampNeg) := by
    have := of_i (v := sg 3 2) (by omega)
    rw [h8, this, show (sg 3 2).toInt.toNat = rk s0 v1.toNatClampNeg by omega]
  rw [en] at e12 e16 e18 e20
  refine ⟨fun k hk => ?_, fun j hj => ?_, ?_, fun x hx hcx => ?_, fun x hx hcx => ?_⟩
  · rw [e22, up2_n (by omega), e20, up2_n (by omega), e18, up2_n (by omega), e16, up2_n (by omega), e12, up2_n (by omega), e10, up2_n (by omega), e3, up2_n (by omega)]; exact p1 k hk
  · rw [e22, up2_o (by omega), e20, up2_n (by decide), e18, up2_n (by decide), e16, up2_n (by decide), e12, up2_n (by decide), e10, up2_n (by decide), e3, up2_n (by decide)]; exact p2 j hj
  · rw [e22, up2_e, rk_s hc]; omega
  · have c17 : s22 17 = s12 17 := by rw [e22, up2_n (by decide), e20, up2_n (by decide), e18, up2_n (by decide), e16, up2_n (by decide)]
    have c18 : s22 18 = s10 18 := by rw [e22, up2_n (by decide), e20, up2_n (by decide), e18, up2_n (by decide), e16, up2_n (by decide), e12, up2_n (by decide)]
    have c19 : s22 19 = s16 19 := by rw [e22, up2_n (by decide), e20, up2_n (by decide), e18, up2_n (by decide)]
    have c21 : s22 21 = s18 21 := by rw [e22, up2_n (by decide), e20, up2_n (by decide)]
    have c22 : s22 22 = s20 22 := by rw [e22, up2_n (by decide)]
    rw [c17, c18, c19, c21, c22]
    by_cases w : x = v1.toNatClampNeg
    · subst w
      rw [e12, up2_e, e10, up2_e, e16, up2_e, e18, up2_e, e20, up2_e]
      exact ⟨ev, e8, rfl, rfl, rfl⟩
    · have q := p4 x (by omega) hcx
      have lt := rk_lt hcx (show x < v1.toNatClampNeg by omega)
      rw [e12, up2_o (by omega), e10, up2_n (by decide), up2_o (by omega), e3, up2_n (by decide), up2_o (by omega), e16, up2_o (by omega), e12, up2_n (by decide), e10, up2_n (by decide), e3, up2_n (by decide), e18, up2_o (by omega), e16, up2_n (by decide), e12, up2_n (by decide), e10, up2_n (by decide), e3, up2_n (by decide), e20, up2_o (by omega), e18, up2_n (by decide), e16, up2_n (by decide), e12, up2_n (by decide), e10, up2_n (by decide), e3, up2_n (by decide)]
      exact q
  · have ne : x ≠ v1.toNatClampNeg := fun z => by rw [z, hc] at hcx; cases hcx
    rw [e22, up2_n (by decide), e20, up2_n (by decide), e18, up2_n (by decide), e16, up2_n (by decide), e12, up2_n (by decide), e10, up2_o (by omega), e3, up2_o (by omega)]
    exact p5 x (by omega) hcx
/-- slots up to s have their pecks and their asking -/
def Ph2 (A sg : Sg) (s : Nat) : Prop := (∀ k, ¬ (k = 20 ∨ k = 21 ∨ k = 22 ∨ k = 23) → sg k = A k) ∧ (∀ a t, a < s → t < (A 3 2).toInt.toNat → sg 23 (12 * a + t) = A 15 (12 * (A 17 a).toNatClampNeg + (A 17 t).toNatClampNeg)) ∧ (∀ a, a < s → sg 20 a = wsl A (A 17 a).toNatClampNeg) ∧
  (∀ a t, a < (A 3 2).toInt.toNat → t < 12 → (bt (sg 21 a) t ↔ (t < (A 3 2).toInt.toNat ∧ ((a < s ∧ A 19 a = 2 ∧ wsl A (A 17 a).toNatClampNeg = Int32.ofNat t) ∨ (t < s ∧ ¬ A 19 t = 2 ∧ wsl A (A 17 t).toNatClampNeg = Int32.ofNat a))))) ∧
  (∀ a t, a < (A 3 2).toInt.toNat → t < 12 → (bt (sg 22 a) t ↔ (t < (A 3 2).toInt.toNat ∧ t < s ∧ A 19 t = 3 ∧ wsl A (A 17 t).toNatClampNeg = Int32.ofNat a)))
theorem bt_or {x w : Int32} {t : Nat} (x0 : 0 ≤ x.toInt) (x1 : x.toInt ≤ 4095) (w0 : 0 ≤ w.toInt) (w1 : w.toInt ≤ 11) (ht : t < 12) : bt (x ||| ((1 : Int32) <<< (w &&& 31))) t ↔ (bt x t ∨ (t : Int) = w.toInt) := by
  have o := ofn_n ht
  have h := tset_bit (set := x) (h := w) (j := Int32.ofNat t) x0 x1 w0 w1 (by omega) (by omega)
  unfold bt
  rw [h, o]
theorem ofn_inj {a b : Nat} (ha : a < 12) (hb : b < 12) (h : Int32.ofNat a = Int32.ofNat b) : a = b := by
  have h1 := ofn_n ha
  have h2 := ofn_n hb
  rw [h] at h1
  omega
set_option maxHeartbeats 4000000 in
theorem ph2_step {A sg s2 s4 : Sg} {s : Nat} (hI : IC0 sg) (h12 : (A 3 2).toInt.toNat ≤ 12) (h : Ph2 A sg s) (hs : s < (A 3 2).toInt.toNat) (hw : wsl A (A 17 s).toNatClampNeg = -1 ∨ (0 ≤ (wsl A (A 17 s).toNatClampNeg).toInt ∧ (wsl A (A 17 s).toNatClampNeg).toInt < (A 3 2).toInt)) (g1 : (∀ k, k ≠ 23 → s2 k = sg k) ∧ ∀ i, s2 23 i = if 12 * s ≤ i ∧ i < 12 * s + (sg 3 2).toInt.toNat then sg 15 (12 * (sg 17 s).toNatClampNeg + (sg 17 (i - 12 * s)).toNatClampNeg) else sg 23 i) (g2 : GA s2 s s4) : Ph2 A s4 (s + 1) := by
  obtain ⟨p1, p2, p3, p4, p5⟩ := h
  obtain ⟨a1, a2⟩ := g1
  obtain ⟨b1, b2, b3, b4⟩ := g2
  have kA : ∀ k, ¬ (k = 20 ∨ k = 21 ∨ k = 22 ∨ k = 23) → s2 k = A k := fun k hk => by rw [a1 k (by omega)]; exact p1 k hk
  have ew : wsl s2 (s2 17 s).toNatClampNeg = wsl A (A 17 s).toNatClampNeg := by
    unfold wsl
    rw [kA 17 (by decide), kA 11 (by decide), kA 12 (by decide), kA 18 (by decide)]
  rw [ew] at b2 b3 b4
  rw [kA 19 (by decide)] at b3 b4
  rw [a1 20 (by decide)] at b2
  rw [a1 21 (by decide)] at b3
  rw [a1 22 (by decide)] at b4
  have km : (-1 : Int32).toInt = -1 := by decide
  have os := ofn_n (j := s) (by omega)
  obtain ⟨W, hW⟩ : ∃ W, W = wsl A (A 17 s).toNatClampNeg := ⟨_, rfl⟩
  rw [← hW] at b2 b3 b4 hw
  refine ⟨fun k hk => ?_, fun a t ha ht => ?_, fun a ha => ?_, fun a t ha ht => ?_, fun a t ha ht => ?_⟩
  · rw [b1 k (by omega) (by omega) (by omega)]; exact kA k hk
  · rw [b1 23 (by decide) (by decide) (by decide), a2, p1 3 (by decide)]
    by_cases w : a = s
    · subst w
      rw [if_pos (by omega), show 12 * a + t - 12 * a = t by omega, p1 15 (by decide), p1 17 (by decide)]
    · rw [if_neg (by omega)]; exact p2 a t (by omega) ht
  · rw [b2]
    by_cases w : a = s
    · rw [if_pos w, w, hW]
    · rw [if_neg w]; exact p3 a (by omega)
  · have ot := ofn_n ht
    have oa := ofn_n (j := a) (by omega)
    have r := rdC21 hI (j := a)
    have old := p4 a t ha ht
    rw [b3 a]
    by_cases c : W = -1
    · rw [if_neg (fun z => z.1 c), if_neg (fun z => z.1 c), old]
      constructor
      · rintro ⟨y1, y2 | y2⟩
        · exact ⟨y1, Or.inl ⟨by omega, y2.2⟩⟩
        · exact ⟨y1, Or.inr ⟨by omega, y2.2⟩⟩
      · rintro ⟨y1, y2 | y2⟩
        · refine ⟨y1, Or.inl ⟨?_, y2.2⟩⟩
          by_cases q : a = s
          · rw [q, ← hW, c] at y2
            have := congrArg Int32.toInt y2.2.2
            omega
          · omega
        · refine ⟨y1, Or.inr ⟨?_, y2.2⟩⟩
          by_cases q : t = s
          · rw [q, ← hW, c] at y2
            have := congrArg Int32.toInt y2.2.2
            omega
          · omega
    · have hw' : 0 ≤ W.toInt ∧ W.toInt < (A 3 2).toInt := by
        rcases hw with z | z
        · exact absurd z c
        · exact z
      have cW := cl_i hw'.1
      have eW : W = Int32.ofNat W.toNatClampNeg := by
        have := of_i hw'.1
        rw [show W.toInt.toNat = W.toNatClampNeg by omega] at this
        exact this
      by_cases d : A 19 s = 2
      · by_cases q : a = s
        · subst q
          rw [if_pos ⟨c, d, rfl⟩, bt_or r.1 r.2 hw'.1 (by omega) ht, old]
          constructor
          · rintro (⟨y1, y2 | y2⟩ | y)
            · exact ⟨y1, Or.inl ⟨by omega, y2.2⟩⟩
            · exact ⟨y1, Or.inr ⟨by omega, y2.2⟩⟩
            · refine ⟨by omega, Or.inl ⟨by omega, d, ?_⟩⟩
              rw [← hW, eW, show t = W.toNatClampNeg by omega]
          · rintro ⟨y1, y2 | y2⟩
            · right
              rw [← hW] at y2
              rw [y2.2.2]; omega
            · left
              refine ⟨y1, Or.inr ⟨?_, y2.2⟩⟩
              by_cases q : t = a
              · rw [q] at y2; exact absurd d y2.2.1
              · omega
        · rw [if_neg (fun z => q z.2.2), if_neg (fun z => z.2.1 d), old]
          constructor
          · rintro ⟨y1, y2 | y2⟩
            · exact ⟨y1, Or.inl ⟨by omega, y2.2⟩⟩
            · exact ⟨y1, Or.inr ⟨by omega, y2.2⟩⟩
          · rintro ⟨y1, y2 | y2⟩
            · exact ⟨y1, Or.inl ⟨by omega, y2.2⟩⟩
            · refine ⟨y1, Or.inr ⟨?_, y2.2⟩⟩
              by_cases q2 : t = s
              · rw [q2] at y2; exact absurd d y2.2.1
              · omega
      · by_cases q : a = W.toNatClampNeg
        · rw [if_neg (fun z => d z.2.1), if_pos ⟨c, d, q⟩, bt_or (w := Int32.ofNat s) r.1 r.2 (by omega) (by omega) ht, old, os]
          constructor
          · rintro (⟨y1, y2 | y2⟩ | y)
            · exact ⟨y1, Or.inl ⟨by omega, y2.2⟩⟩
            · exact ⟨y1, Or.inr ⟨by omega, y2.2⟩⟩
            · have ets : t = s := by omega
              subst ets
              exact ⟨hs, Or.inr ⟨by omega, d, by rw [← hW, q]; exact eW⟩⟩
          · rintro ⟨y1, y2 | y2⟩
            · left
              refine ⟨y1, Or.inl ⟨?_, y2.2⟩⟩
              by_cases q2 : a = s
              · rw [q2] at y2; exact absurd y2.2.1 d
              · omega
            · by_cases q2 : t = s
              · right; omega
              · left; exact ⟨y1, Or.inr ⟨by omega, y2.2⟩⟩
        · rw [if_neg (fun z => d z.2.1), if_neg (fun z => q z.2.2), old]
          constructor
          · rintro ⟨y1, y2 | y2⟩
            · exact ⟨y1, Or.inl ⟨by omega, y2.2⟩⟩
            · exact ⟨y1, Or.inr ⟨by omega, y2.2⟩⟩
          · rintro ⟨y1, y2 | y2⟩
            · refine ⟨y1, Or.inl ⟨?_, y2.2⟩⟩
              by_cases q2 : a = s
              · rw [q2] at y2; exact absurd y2.2.1 d
              · omega
            · refine ⟨y1, Or.inr ⟨?_, y2.2⟩⟩
              by_cases q2 : t = s
              · rw [q2, ← hW] at y2
                exact absurd (by have h2 := congrArg Int32.toInt y2.2.2; omega) q
              · omega
  · have ot := ofn_n ht
    have oa := ofn_n (j := a) (by omega)
    have r := rdC22 hI (j := a)
    have old := p5 a t ha ht
    rw [b4 a]
    by_cases c : ¬ W = -1 ∧ A 19 s = 3 ∧ a = W.toNatClampNeg
    · have hw' : 0 ≤ W.toInt ∧ W.toInt < (A 3 2).toInt := by
        rcases hw with z | z
        · exact absurd z c.1
        · exact z
      have eW : W = Int32.ofNat W.toNatClampNeg := by
        have h1 := of_i hw'.1
        have h2 := cl_i hw'.1
        rw [show W.toInt.toNat = W.toNatClampNeg by omega] at h1
        exact h1
      rw [if_pos c, bt_or (w := Int32.ofNat s) r.1 r.2 (by omega) (by omega) ht, old, os]
      constructor
      · rintro (⟨y1, y2, y3⟩ | y)
        · exact ⟨y1, by omega, y3⟩
        · have ets : t = s := by omega
          subst ets
          exact ⟨hs, by omega, c.2.1, by rw [← hW, c.2.2]; exact eW⟩
      · rintro ⟨y1, y2, y3⟩
        by_cases q2 : t = s
        · right; omega
        · left; exact ⟨y1, by omega, y3⟩
    · rw [if_neg c, old]
      constructor
      · rintro ⟨y1, y2, y3⟩
        exact ⟨y1, by omega, y3⟩
      · rintro ⟨y1, y2, y3⟩
        refine ⟨y1, ?_, y3⟩
        by_cases q2 : t = s
        · rw [q2, ← hW] at y3
          refine absurd ⟨fun z => ?_, y3.1, ?_⟩ c
          · rw [z] at y3
            have := congrArg Int32.toInt y3.2
            omega
          · have h2 := cl_i (i := W) (by rw [y3.2]; omega)
            rw [y3.2] at h2 ⊢
            omega
        · omega
/-- what a muster that is up to date holds -/
def MC (sg : Sg) : Prop := (sg 3 2).toInt = (rk sg 12 : Int) ∧ (∀ h, h < 12 → cnb sg h = true → sg 17 (rk sg h) = Int32.ofNat h ∧ sg 18 h = Int32.ofNat (rk sg h) ∧ sg 19 (rk sg h) = sg 11 h) ∧ (∀ h, h < 12 → cnb sg h = false → sg 18 h = -1) ∧
  (∀ a t, a < rk sg 12 → t < rk sg 12 → sg 23 (12 * a + t) = sg 15 (12 * (sg 17 a).toNatClampNeg + (sg 17 t).toNatClampNeg)) ∧ (∀ a, a < rk sg 12 → sg 20 a = wsl sg (sg 17 a).toNatClampNeg) ∧
  (∀ a t, a < rk sg 12 → t < 12 → (bt (sg 21 a) t ↔ (t < rk sg 12 ∧ ((sg 19 a = 2 ∧ sg 20 a = Int32.ofNat t) ∨ (¬ sg 19 t = 2 ∧ sg 20 t = Int32.ofNat a))))) ∧
  (∀ a t, a < rk sg 12 → t < 12 → (bt (sg 22 a) t ↔ (t < rk sg 12 ∧ sg 19 t = 3 ∧ sg 20 t = Int32.ofNat a)))
theorem rk_cg {s0 sg : Sg} (h : ∀ x, cnb sg x = cnb s0 x) (n : Nat) : rk sg n = rk s0 n := by
  unfold rk
  rw [show cnb sg = cnb s0 from funext h]
theorem wsl_lt {s0 A : Sg} {h : Nat} (hI : IC0 A) (p : Ph1 s0 A 12) : wsl A h = -1 ∨ (0 ≤ (wsl A h).toInt ∧ (wsl A h).toInt < (A 3 2).toInt) := by
  obtain ⟨p1, p2, p3, p4, p5⟩ := p
  unfold wsl
  split
  · rename_i c
    have ra := rdC12 hI (j := h)
    have rb : 0 ≤ (A 12 h).toInt := by
      rcases hI.2 12 h (Or.inl rfl) with z | z
      · exact absurd z c.2.2
      · exact z
    have hc := cl_i rb
    cases hcn : cnb s0 (A 12 h).toNatClampNeg
    · left; exact p5 _ (by omega) hcn
    · right
      have q := (p4 _ (by omega) hcn).2.1
      have lt := rk_lt hcn (show (A 12 h).toNatClampNeg < 12 by omega)
      have le := rk_le s0 12
      rw [q, ofn_n (by omega)]
      omega
  · left; rfl
set_option maxHeartbeats 4000000 in
theorem g_133 {s0 A : Sg} (hI : IC0 A) (p : Ph1 s0 A 12) : Ok (fun r => Ph2 A r (A 3 2).toInt.toNat) (LX8_gather_133 ((0 : Int32), A)) := by
  have k0 : (0 : Int32).toInt = 0 := by decide
  have k1 : (1 : Int32).toInt = 1 := by decide
  have hn := rdC3_2 hI
  unfold LX8_gather_133
  refine ok_loop (I := fun (q : Int32 × Sg) => 0 ≤ q.1.toInt ∧ q.1.toInt ≤ (A 3 2).toInt ∧ IC0 q.2 ∧ Ph2 A q.2 q.1.toInt.toNat) (m := fun (q : Int32 × Sg) => (13 - q.1.toInt).toNat) _ ?_ ?_ _ ?_
  · intro q hq
    have := hq.1
    show (13 - q.1.toInt).toNat < 10000
    omega
  · intro rec q hq hrec
    obtain ⟨v1, sg⟩ := q
    replace hq : 0 ≤ v1.toInt ∧ v1.toInt ≤ (A 3 2).toInt ∧ IC0 sg ∧ Ph2 A sg v1.toInt.toNat := hq
    obtain ⟨q0, q1, q2, q3⟩ := hq
    show Ok _ (fX8_gather_133 rec v1 sg)
    unfold fX8_gather_133
    have e3 : sg 3 2 = A 3 2 := by rw [q3.1 3 (by decide)]
    have hc := cl_i q0
    rw [e3]
    refine ok_ite (fun c => ?_) (fun c => ?_)
    · replace c := i_le.mp c
      refine ok_some ?_
      rw [show (A 3 2).toInt.toNat = v1.toInt.toNat by omega]
      exact q3
    · replace c := i_nle.mp c
      refine ok_bnd1 (ok_and (sX8_gatherPecks q2 q0 (by omega)) (g_pecks q2 q0 (by omega))) (fun s2 h2 => ?_)
      have i2 : IC0 s2 := h2.1.1
      refine ok_bnd1 (ok_and (sX8_gatherAsking i2 q0 (by omega)) (g_asking i2 q0 (by omega))) (fun s4 h4 => ?_)
      have i4 : IC0 s4 := h4.1.1
      refine ok_lt (fun x6 e6 => ?_)
      replace e6 : x6.toInt = v1.toInt + 1 := by rw [e6]; exact add_c 1 k1 (by omega) (by omega)
      have st := ph2_step (A := A) (sg := sg) (s2 := s2) (s4 := s4) (s := v1.toNatClampNeg) q2 (by omega) (by rw [show v1.toNatClampNeg = v1.toInt.toNat by omega]; exact q3) (by omega) (wsl_lt hI p) h2.2 h4.2
      refine hrec (x6, s4) ⟨by show 0 ≤ x6.toInt; omega, by show x6.toInt ≤ (A 3 2).toInt; omega, i4, ?_⟩ (show (13 - x6.toInt).toNat < (13 - v1.toInt).toNat by omega)
      show Ph2 A s4 x6.toInt.toNat
      rw [show x6.toInt.toNat = v1.toNatClampNeg + 1 by omega]
      exact st
  · refine ⟨by show 0 ≤ (0 : Int32).toInt; omega, by show (0 : Int32).toInt ≤ (A 3 2).toInt; omega, hI, ?_⟩
    show Ph2 A A (0 : Int32).toInt.toNat
    rw [k0]
    obtain ⟨p1, p2, p3, p4, p5⟩ := p
    have bt0 : ∀ t, t < 12 → ¬ bt 0 t := by
      unfold bt
      decide +kernel
    refine ⟨fun _ _ => rfl, fun a t ha _ => absurd ha (Nat.not_lt_zero _), fun a ha => absurd ha (Nat.not_lt_zero _), fun a t ha ht => ?_, fun a t ha ht => ?_⟩
    · obtain ⟨x, x1, x2, x3⟩ := rk_onto (sg := s0) 12 a (by omega)
      rw [← x3, (p4 x x1 x2).2.2.2.1]
      exact ⟨fun z => absurd z (bt0 t ht), fun z => z.2.elim (fun y => absurd y.1 (Nat.not_lt_zero _)) (fun y => absurd y.1 (Nat.not_lt_zero _))⟩
    · obtain ⟨x, x1, x2, x3⟩ := rk_onto (sg := s0) 12 a (by omega)
      rw [← x3, (p4 x x1 x2).2.2.2.2]
      exact ⟨fun z => absurd z (bt0 t ht), fun z => absurd z.2.1 (Nat.not_lt_zero _)⟩
theorem mc_of {s0 A r : Sg} (p : Ph1 s0 A 12) (q : Ph2 A r (A 3 2).toInt.toNat) : MC r := by
  obtain ⟨p1, p2, p3, p4, p5⟩ := p
  obtain ⟨q1, q2, q3, q4, q5⟩ := q
  have e1 : r 1 = s0 1 := by rw [q1 1 (by decide), p1 1 (by decide)]
  have e11 : r 11 = s0 11 := by rw [q1 11 (by decide), p1 11 (by decide)]
  have e13 : r 13 = s0 13 := by rw [q1 13 (by decide), p1 13 (by decide)]
  have cc : ∀ x, cnb r x = cnb s0 x := cnb_cg e1 e11 e13
  have rr : ∀ n, rk r n = rk s0 n := rk_cg cc
  have en : (A 3 2).toInt.toNat = rk s0 12 := by omega
  rw [en] at q2 q3 q4 q5
  have ew : ∀ h, wsl r h = wsl A h := fun h => by
    unfold wsl
    rw [q1 11 (by decide), q1 12 (by decide), q1 18 (by decide)]
  refine ⟨?_, fun h hh hc => ?_, fun h hh hc => ?_, fun a t ha ht => ?_, fun a ha => ?_, fun a t ha ht => ?_, fun a t ha ht => ?_⟩
  · rw [q1 3 (by decide), rr]; exact p3
  · rw [cc] at hc
    have z := p4 h hh hc
    rw [rr, q1 17 (by decide), q1 18 (by decide), q1 19 (by decide), e11]
    exact ⟨z.1, z.2.1, z.2.2.1⟩
  · rw [cc] at hc
    rw [q1 18 (by decide)]; exact p5 h hh hc
  · rw [rr] at ha ht
    rw [q2 a t ha ht, q1 15 (by decide), q1 17 (by decide)]
  · rw [rr] at ha
    rw [q3 a ha, ew, q1 17 (by decide)]
  · rw [rr] at ha ⊢
    rw [q4 a t ha ht, q1 19 (by decide), q3 a ha]
    constructor
    · rintro ⟨y1, y2 | y2⟩
      · exact ⟨y1, Or.inl y2.2⟩
      · exact ⟨y1, Or.inr (by rw [q3 t y1]; exact y2.2)⟩
    · rintro ⟨y1, y2 | y2⟩
      · exact ⟨y1, Or.inl ⟨ha, y2⟩⟩
      · rw [q3 t y1] at y2
        exact ⟨y1, Or.inr ⟨y1, y2⟩⟩
  · rw [rr] at ha ⊢
    rw [q5 a t ha ht, q1 19 (by decide)]
    constructor
    · rintro ⟨y1, _, y2⟩
      exact ⟨y1, by rw [q3 t y1]; exact y2⟩
    · rintro ⟨y1, y2⟩
      rw [q3 t y1] at y2
      exact ⟨y1, y1, y2⟩
/-- gather, when the muster is out of date -/
def GV (s0 r : Sg) : Prop := (∀ k, ¬ (k = 3 ∨ (17 ≤ k ∧ k ≤ 23)) → r k = s0 k) ∧ r 3 1 = s0 1 1 ∧ MC r
set_option maxHeartbeats 4000000 in
theorem g_gather {sg : Sg} (hI : IC0 sg) (hn : ¬ (sg 3 1) = (sg 1 1)) : Ok (GV sg) (fX8_gather sg) := by
  have k0 : (0 : Int32).toInt = 0 := by decide
  have k1 : (1 : Int32).toInt = 1 := by decide
  have k12 : (12 : Int32).toInt = 12 := by decide
  have t2 := rdC1_0 hI
  unfold fX8_gather
  rw [if_neg hn]
  refine ok_lt (fun x2 ex2 => ?_)
  refine ok_lt (fun sa ea => ?_)
  refine ok_lt (fun s0 e0 => ?_)
  have f0 : ∀ k, k ≠ 3 → s0 k = sg k := fun k hk => by rw [e0, up2_n hk, ea, up2_n hk]
  have f31 : s0 3 1 = sg 1 1 := by rw [e0, up2_o (by omega), ea, up2_e]; exact ex2
  have f32 : (s0 3 2).toInt = 0 := by rw [e0, up2_e]; exact k0
  have hS0 : StC0 MX8_gather sg s0 := by
    have h1 := upZ3_1 (StC0.rf (M := MX8_gather) hI) (by decide) ea
    exact upZ3_2 h1 (by decide) e0 (by omega) (by omega)
  have t0 : (s0 1 0).toInt ≤ 12 := by rw [f0 1 (by decide)]; exact t2.2
  unfold LX8_gather_33
  refine ok_loop (I := fun (q : Int32 × Sg) => 0 ≤ q.1.toInt ∧ q.1.toInt ≤ 12 ∧ IC0 q.2 ∧ Ph1 s0 q.2 q.1.toInt.toNat) (m := fun (q : Int32 × Sg) => (13 - q.1.toInt).toNat) _ ?_ ?_ _ ?_
  · intro q hq
    have := hq.1
    show (13 - q.1.toInt).toNat < 10000
    omega
  · intro rec q hq hrec
    obtain ⟨v1, s⟩ := q
    replace hq : 0 ≤ v1.toInt ∧ v1.toInt ≤ 12 ∧ IC0 s ∧ Ph1 s0 s v1.toInt.toNat := hq
    obtain ⟨q0, q1, q2, q3⟩ := hq
    show Ok (GV sg) (fX8_gather_33 rec v1 s)
    unfold fX8_gather_33
    have hc := cl_i q0
    have en : v1.toInt.toNat = v1.toNatClampNeg := by omega
    have go : ∀ s' : Sg, v1.toInt ≤ 11 → IC0 s' → Ph1 s0 s' (v1.toNatClampNeg + 1) → Ok (GV sg) (fX8_gather_125 rec v1 s') := by
      intro s' a1 a2 a3
      unfold fX8_gather_125
      refine ok_lt (fun x ex => ?_)
      replace ex : x.toInt = v1.toInt + 1 := by rw [ex]; exact add_c 1 k1 (by omega) (by omega)
      refine hrec (x, s') ⟨by show 0 ≤ x.toInt; omega, by show x.toInt ≤ 12; omega, a2, ?_⟩ (show (13 - x.toInt).toNat < (13 - v1.toInt).toNat by omega)
      show Ph1 s0 s' x.toInt.toNat
      rw [show x.toInt.toNat = v1.toNatClampNeg + 1 by omega]
      exact a3
    refine ok_ite (fun c => ?_) (fun c => ?_)
    · replace c := i_le.mp c
      rw [show v1.toInt.toNat = 12 by omega] at q3
      refine ok_mono (g_133 q2 q3) (fun r hr => ⟨fun k hk => ?_, ?_, mc_of q3 hr⟩)
      · rw [hr.1 k (by omega), q3.1 k (by omega), f0 k (by omega)]
      · rw [hr.1 3 (by decide), q3.2.1 1 (by decide), f31]
    · replace c := i_nle.mp c
      rw [en] at q3
      refine ok_gin (by omega) (by omega) ?_
      refine ok_lt (fun s3 e3 => ?_)
      have i3 : IC0 s3 := (upZ18 (StC0.rf (M := MX8_gather) q2) (by decide) e3 (by decide) (by decide)).1
      have cb3 : ∀ x, cnb s3 x = cnb s0 x := cnb_cg (by rw [e3, up2_n (by decide)]; exact q3.1 1 (by decide)) (by rw [e3, up2_n (by decide)]; exact q3.1 11 (by decide)) (by rw [e3, up2_n (by decide)]; exact q3.1 13 (by decide))
      refine bnd2_of (isc_b (rdC1_0 i3).2 q0) ?_
      rw [cb3]
      cases hcn : cnb s0 v1.toNatClampNeg
      · rw [if_neg (show ¬ (false = true) by decide), ite0]
        exact go s3 (by omega) i3 (ph1_skip q3 e3 hcn)
      · rw [if_pos (show true = true from rfl), ite1]
        have n3 : s3 3 2 = s 3 2 := by rw [e3, up2_n (by decide)]
        have rl := rk_le s0 v1.toNatClampNeg
        have p3 := q3.2.2.1
        have r32 := rdC3_2 q2
        have c32 := cl_i (i := s 3 2) r32.1
        refine ok_lt (fun x8 e8 => ?_)
        rw [n3] at e8
        refine ok_gin (by omega) (by omega) ?_
        refine ok_lt (fun s10 e10 => ?_)
        have n10 : s10 3 2 = s 3 2 := by rw [e10, up2_n (by decide)]; exact n3
        rw [n10]
        refine ok_gin (by omega) (by omega) ?_
        refine ok_lt (fun s12 e12 => ?_)
        have n12 : s12 3 2 = s 3 2 := by rw [e12, up2_n (by decide)]; exact n10
        have k11 : s12 11 = s0 11 := by rw [e12, up2_n (by decide), e10, up2_n (by decide), e3, up2_n (by decide)]; exact q3.1 11 (by decide)
        rw [n12, k11]
        refine ok_gin (by omega) (by omega) ?_
        refine ok_lt (fun x14 e14 => ?_)
        refine ok_gin (by omega) (by omega) ?_
        refine ok_lt (fun s16 e16 => ?_)
        have n16 : s16 3 2 = s 3 2 := by rw [e16, up2_n (by decide)]; exact n12
        rw [n16]
        refine ok_gin (by omega) (by omega) ?_
        refine ok_lt (fun s18 e18 => ?_)
        have n18 : s18 3 2 = s 3 2 := by rw [e18, up2_n (by decide)]; exact n16
        rw [n18]
        refine ok_gin (by omega) (by omega) ?_
        refine ok_lt (fun s20 e20 => ?_)
        have n20 : s20 3 2 = s 3 2 := by rw [e20, up2_n (by decide)]; exact n18
        rw [n20]
        refine ok_lt (fun x21 e21 => ?_)
        replace e21 : x21.toInt = (s 3 2).toInt + 1 := by rw [e21]; exact add_c 1 k1 (by omega) (by omega)
        refine ok_lt (fun s22 e22 => ?_)
        rw [e14] at e16
        have ra := rdC11 hS0.1 (j := v1.toNatClampNeg)
        have z3 := StC0.rf (M := MX8_gather) i3
        have z10 := upZ18 z3 (by decide) e10 (by rw [e8]; omega) (by rw [e8]; omega)
        have z12 := upZ17 z10 (by decide) e12 (by omega) (by omega)
        have z16 := upZ19 z12 (by decide) e16 (by omega) (by omega)
        have z18 := upZ21 z16 (by decide) e18 (by decide) (by decide)
        have z20 := upZ22 z18 (by decide) e20 (by decide) (by decide)
        have z22 := upZ3_2 z20 (by decide) e22 (by omega) (by omega)
        exact go s22 (by omega) z22.1 (ph1_put t0 q0 q3 hcn e8 e3 e10 e12 e16 e18 e20 e21 e22)
  · refine ⟨by show 0 ≤ (0 : Int32).toInt; omega, by show (0 : Int32).toInt ≤ 12; omega, hS0.1, ?_⟩
    show Ph1 s0 s0 (0 : Int32).toInt.toNat
    rw [k0]
    exact ⟨fun _ _ => rfl, fun _ _ => rfl, f32, fun x hx => absurd hx (Nat.not_lt_zero _), fun x hx => absurd hx (Nat.not_lt_zero _)⟩
set_option maxHeartbeats 4000000 in
theorem h_sum25 {v1 v2 v3 : Int32} {sg : Sg} (a0 : 0 ≤ v1.toInt) (a1 : v1.toInt ≤ 704) (b0 : 0 ≤ v2.toInt) (b1 : v2.toInt ≤ 5) : Ok (fun r => (∀ k, k ≠ 25 → r k = sg k) ∧ ∀ i, r 25 i = if v1.toInt.toNat + 2 ^ v2.toInt.toNat ≤ i ∧ i < v1.toInt.toNat + 2 ^ v2.toInt.toNat + 2 ^ v2.toInt.toNat then sg 25 (i - 2 ^ v2.toInt.toNat) + v3 else sg 25 i) (fX4_spreadSum_c25 v1 v2 v3 sg) := by
  have k0 : (0 : Int32).toInt = 0 := by decide
  have k1 : (1 : Int32).toInt = 1 := by decide
  have se := shl_is (v := v2) b0 (by omega)
  have sr := shl_i (v := v2) 5 32 (by decide) (by decide) (by omega) (by omega)
  unfold fX4_spreadSum_c25
  refine ok_lt (fun x1 e1 => ?_)
  rw [← e1] at se sr
  obtain ⟨E, hE⟩ : ∃ E : Nat, E = 2 ^ v2.toInt.toNat := ⟨_, rfl⟩
  rw [← hE] at se ⊢
  unfold LX4_spreadSum_c25_8
  refine ok_loop (I := fun (q : Int32 × Int32 × Int32 × Int32 × Sg) => q.1 = v1 ∧ q.2.1 = v3 ∧ q.2.2.1 = x1 ∧ 0 ≤ q.2.2.2.1.toInt ∧ q.2.2.2.1.toInt ≤ (E : Int) ∧ (∀ k, k ≠ 25 → q.2.2.2.2 k = sg k) ∧ ∀ i, q.2.2.2.2 25 i = if v1.toInt.toNat + E ≤ i ∧ i < v1.toInt.toNat + E + q.2.2.2.1.toInt.toNat then sg 25 (i - E) + v3 else sg 25 i) (m := fun (q : Int32 × Int32 × Int32 × Int32 × Sg) => (33 - q.2.2.2.1.toInt).toNat) _ ?_ ?_ _ ?_
  · intro q hq
    have := hq.2.2.2.1
    show (33 - q.2.2.2.1.toInt).toNat < 10000
    omega
  · intro rec q hq hrec
    obtain ⟨p1, p3, p4, v5, s⟩ := q
    replace hq : p1 = v1 ∧ p3 = v3 ∧ p4 = x1 ∧ 0 ≤ v5.toInt ∧ v5.toInt ≤ (E : Int) ∧ (∀ k, k ≠ 25 → s k = sg k) ∧ ∀ i, s 25 i = if v1.toInt.toNat + E ≤ i ∧ i < v1.toInt.toNat + E + v5.toInt.toNat then sg 25 (i - E) + v3 else sg 25 i := hq
    obtain ⟨e2, e3, e4, q0, q1, q2, q3⟩ := hq
    subst e2 e3 e4
    show Ok _ (fX4_spreadSum_c25_8 rec p1 p3 p4 v5 s)
    unfold fX4_spreadSum_c25_8
    refine ok_ite (fun c => ?_) (fun c => ?_)
    · replace c := i_le.mp c
      refine ok_some ⟨q2, fun i => ?_⟩
      rw [q3 i, show v5.toInt.toNat = E by omega]
    · replace c := i_nle.mp c
      have f1 := add_i (a := p1) (b := v5) (by omega) (by omega)
      have f2 := add_i (a := p1) (b := p4) (by omega) (by omega)
      have f3 := add_i (a := p1 + p4) (b := v5) (by omega) (by omega)
      have g1 := cl_i (i := p1 + v5) (by omega)
      have g3 := cl_i (i := p1 + p4 + v5) (by omega)
      refine ok_lt (fun x2 e2 => ?_)
      rw [e2]
      refine ok_gin (by omega) (by omega) ?_
      refine ok_lt (fun x4 e4 => ?_)
      refine ok_gin (by omega) (by omega) ?_
      refine ok_lt (fun s6 e6 => ?_)
      refine ok_lt (fun x7 e7 => ?_)
      replace e7 : x7.toInt = v5.toInt + 1 := by rw [e7]; exact add_c 1 k1 (by omega) (by omega)
      refine hrec (p1, p3, p4, x7, s6) ⟨rfl, rfl, rfl, by show 0 ≤ x7.toInt; omega, by show x7.toInt ≤ (E : Int); omega, fun k hk => ?_, fun i => ?_⟩ (show (33 - x7.toInt).toNat < (33 - v5.toInt).toNat by omega)
      · show s6 k = sg k
        rw [e6, up2_n hk]; exact q2 k hk
      · show s6 25 i = if p1.toInt.toNat + E ≤ i ∧ i < p1.toInt.toNat + E + x7.toInt.toNat then sg 25 (i - E) + p3 else sg 25 i
        rw [e6, up2_is]
        by_cases w : 25 = 25 ∧ i = (p1 + p4 + v5).toNatClampNeg
        · rw [if_pos w, if_pos (by omega), e4, q3, if_neg (by omega), show (p1 + v5).toNatClampNeg = i - E by omega]
        · rw [if_neg w, q3 i]
          by_cases z : p1.toInt.toNat + E ≤ i ∧ i < p1.toInt.toNat + E + v5.toInt.toNat
          · rw [if_pos z, if_pos (by omega)]
          · rw [if_neg z, if_neg (by omega)]
  · exact ⟨rfl, rfl, rfl, by show 0 ≤ (0 : Int32).toInt; omega, by show (0 : Int32).toInt ≤ (E : Int); omega, fun _ _ => rfl, fun i => by show sg 25 i = if v1.toInt.toNat + E ≤ i ∧ i < v1.toInt.toNat + E + (0 : Int32).toInt.toNat then _ else sg 25 i; rw [if_neg (by omega)]⟩
set_option maxHeartbeats 4000000 in
theorem h_sum26 {v1 v2 v3 : Int32} {sg : Sg} (a0 : 0 ≤ v1.toInt) (a1 : v1.toInt ≤ 704) (b0 : 0 ≤ v2.toInt) (b1 : v2.toInt ≤ 5) : Ok (fun r => (∀ k, k ≠ 26 → r k = sg k) ∧ ∀ i, r 26 i = if v1.toInt.toNat + 2 ^ v2.toInt.toNat ≤ i ∧ i < v1.toInt.toNat + 2 ^ v2.toInt.toNat + 2 ^ v2.toInt.toNat then sg 26 (i - 2 ^ v2.toInt.toNat) + v3 else sg 26 i) (fX4_spreadSum_c26 v1 v2 v3 sg) := by
  have k0 : (0 : Int32).toInt = 0 := by decide
  have k1 : (1 : Int32).toInt = 1 := by decide
  have se := shl_is (v := v2) b0 (by omega)
  have sr := shl_i (v := v2) 5 32 (by decide) (by decide) (by omega) (by omega)
  unfold fX4_spreadSum_c26
  refine ok_lt (fun x1 e1 => ?_)
  rw [← e1] at se sr
  obtain ⟨E, hE⟩ : ∃ E : Nat, E = 2 ^ v2.toInt.toNat := ⟨_, rfl⟩
  rw [← hE] at se ⊢
  unfold LX4_spreadSum_c26_8
  refine ok_loop (I := fun (q : Int32 × Int32 × Int32 × Int32 × Sg) => q.1 = v1 ∧ q.2.1 = v3 ∧ q.2.2.1 = x1 ∧ 0 ≤ q.2.2.2.1.toInt ∧ q.2.2.2.1.toInt ≤ (E : Int) ∧ (∀ k, k ≠ 26 → q.2.2.2.2 k = sg k) ∧ ∀ i, q.2.2.2.2 26 i = if v1.toInt.toNat + E ≤ i ∧ i < v1.toInt.toNat + E + q.2.2.2.1.toInt.toNat then sg 26 (i - E) + v3 else sg 26 i) (m := fun (q : Int32 × Int32 × Int32 × Int32 × Sg) => (33 - q.2.2.2.1.toInt).toNat) _ ?_ ?_ _ ?_
  · intro q hq
    have := hq.2.2.2.1
    show (33 - q.2.2.2.1.toInt).toNat < 10000
    omega
  · intro rec q hq hrec
    obtain ⟨p1, p3, p4, v5, s⟩ := q
    replace hq : p1 = v1 ∧ p3 = v3 ∧ p4 = x1 ∧ 0 ≤ v5.toInt ∧ v5.toInt ≤ (E : Int) ∧ (∀ k, k ≠ 26 → s k = sg k) ∧ ∀ i, s 26 i = if v1.toInt.toNat + E ≤ i ∧ i < v1.toInt.toNat + E + v5.toInt.toNat then sg 26 (i - E) + v3 else sg 26 i := hq
    obtain ⟨e2, e3, e4, q0, q1, q2, q3⟩ := hq
    subst e2 e3 e4
    show Ok _ (fX4_spreadSum_c26_8 rec p1 p3 p4 v5 s)
    unfold fX4_spreadSum_c26_8
    refine ok_ite (fun c => ?_) (fun c => ?_)
    · replace c := i_le.mp c
      refine ok_some ⟨q2, fun i => ?_⟩
      rw [q3 i, show v5.toInt.toNat = E by omega]
    · replace c := i_nle.mp c
      have f1 := add_i (a := p1) (b := v5) (by omega) (by omega)
      have f2 := add_i (a := p1) (b := p4) (by omega) (by omega)
      have f3 := add_i (a := p1 + p4) (b := v5) (by omega) (by omega)
      have g1 := cl_i (i := p1 + v5) (by omega)
      have g3 := cl_i (i := p1 + p4 + v5) (by omega)
      refine ok_lt (fun x2 e2 => ?_)
      rw [e2]
      refine ok_gin (by omega) (by omega) ?_
      refine ok_lt (fun x4 e4 => ?_)
      refine ok_gin (by omega) (by omega) ?_
      refine ok_lt (fun s6 e6 => ?_)
      refine ok_lt (fun x7 e7 => ?_)
      replace e7 : x7.toInt = v5.toInt + 1 := by rw [e7]; exact add_c 1 k1 (by omega) (by omega)
      refine hrec (p1, p3, p4, x7, s6) ⟨rfl, rfl, rfl, by show 0 ≤ x7.toInt; omega, by show x7.toInt ≤ (E : Int); omega, fun k hk => ?_, fun i => ?_⟩ (show (33 - x7.toInt).toNat < (33 - v5.toInt).toNat by omega)
      · show s6 k = sg k
        rw [e6, up2_n hk]; exact q2 k hk
      · show s6 26 i = if p1.toInt.toNat + E ≤ i ∧ i < p1.toInt.toNat + E + x7.toInt.toNat then sg 26 (i - E) + p3 else sg 26 i
        rw [e6, up2_is]
        by_cases w : 26 = 26 ∧ i = (p1 + p4 + v5).toNatClampNeg
        · rw [if_pos w, if_pos (by omega), e4, q3, if_neg (by omega), show (p1 + v5).toNatClampNeg = i - E by omega]
        · rw [if_neg w, q3 i]
          by_cases z : p1.toInt.toNat + E ≤ i ∧ i < p1.toInt.toNat + E + v5.toInt.toNat
          · rw [if_pos z, if_pos (by omega)]
          · rw [if_neg z, if_neg (by omega)]
  · exact ⟨rfl, rfl, rfl, by show 0 ≤ (0 : Int32).toInt; omega, by show (0 : Int32).toInt ≤ (E : Int); omega, fun _ _ => rfl, fun i => by show sg 26 i = if v1.toInt.toNat + E ≤ i ∧ i < v1.toInt.toNat + E + (0 : Int32).toInt.toNat then _ else sg 26 i; rw [if_neg (by omega)]⟩
set_option maxHeartbeats 4000000 in
theorem h_uni27 {v1 v2 : Int32} {sg : Sg} (b0 : 0 ≤ v1.toInt) (b1 : v1.toInt ≤ 5) : Ok (fun r => (∀ k, k ≠ 27 → r k = sg k) ∧ ∀ i, r 27 i = if 2 ^ v1.toInt.toNat ≤ i ∧ i < 2 ^ v1.toInt.toNat + 2 ^ v1.toInt.toNat then sg 27 (i - 2 ^ v1.toInt.toNat) ||| v2 else sg 27 i) (fX4_spreadUnion_c27 v1 v2 sg) := by
  have k0 : (0 : Int32).toInt = 0 := by decide
  have k1 : (1 : Int32).toInt = 1 := by decide
  have se := shl_is (v := v1) b0 (by omega)
  have sr := shl_i (v := v1) 5 32 (by decide) (by decide) (by omega) (by omega)
  unfold fX4_spreadUnion_c27
  refine ok_lt (fun x1 e1 => ?_)
  rw [← e1] at se sr
  obtain ⟨E, hE⟩ : ∃ E : Nat, E = 2 ^ v1.toInt.toNat := ⟨_, rfl⟩
  rw [← hE] at se ⊢
  unfold LX4_spreadUnion_c27_7
  refine ok_loop (I := fun (q : Int32 × Int32 × Int32 × Sg) => q.1 = v2 ∧ q.2.1 = x1 ∧ 0 ≤ q.2.2.1.toInt ∧ q.2.2.1.toInt ≤ (E : Int) ∧ (∀ k, k ≠ 27 → q.2.2.2 k = sg k) ∧ ∀ i, q.2.2.2 27 i = if E ≤ i ∧ i < E + q.2.2.1.toInt.toNat then sg 27 (i - E) ||| v2 else sg 27 i) (m := fun (q : Int32 × Int32 × Int32 × Sg) => (33 - q.2.2.1.toInt).toNat) _ ?_ ?_ _ ?_
  · intro q hq
    have := hq.2.2.1
    show (33 - q.2.2.1.toInt).toNat < 10000
    omega
  · intro rec q hq hrec
    obtain ⟨p2, p3, v4, s⟩ := q
    replace hq : p2 = v2 ∧ p3 = x1 ∧ 0 ≤ v4.toInt ∧ v4.toInt ≤ (E : Int) ∧ (∀ k, k ≠ 27 → s k = sg k) ∧ ∀ i, s 27 i = if E ≤ i ∧ i < E + v4.toInt.toNat then sg 27 (i - E) ||| v2 else sg 27 i := hq
    obtain ⟨e2, e3, q0, q1, q2, q3⟩ := hq
    subst e2 e3
    show Ok _ (fX4_spreadUnion_c27_7 rec p2 p3 v4 s)
    unfold fX4_spreadUnion_c27_7
    refine ok_ite (fun c => ?_) (fun c => ?_)
    · replace c := i_le.mp c
      refine ok_some ⟨q2, fun i => ?_⟩
      rw [q3 i, show v4.toInt.toNat = E by omega]
    · replace c := i_nle.mp c
      have f2 := add_i (a := p3) (b := v4) (by omega) (by omega)
      have g1 := cl_i (i := v4) (by omega)
      have g3 := cl_i (i := p3 + v4) (by omega)
      refine ok_gin (by omega) (by omega) ?_
      refine ok_lt (fun x3 e4 => ?_)
      refine ok_gin (by omega) (by omega) ?_
      refine ok_lt (fun s5 e6 => ?_)
      refine ok_lt (fun x6 e7 => ?_)
      replace e7 : x6.toInt = v4.toInt + 1 := by rw [e7]; exact add_c 1 k1 (by omega) (by omega)
      refine hrec (p2, p3, x6, s5) ⟨rfl, rfl, by show 0 ≤ x6.toInt; omega, by show x6.toInt ≤ (E : Int); omega, fun k hk => ?_, fun i => ?_⟩ (show (33 - x6.toInt).toNat < (33 - v4.toInt).toNat by omega)
      · show s5 k = sg k
        rw [e6, up2_n hk]; exact q2 k hk
      · show s5 27 i = if E ≤ i ∧ i < E + x6.toInt.toNat then sg 27 (i - E) ||| p2 else sg 27 i
        rw [e6, up2_is]
        by_cases w : 27 = 27 ∧ i = (p3 + v4).toNatClampNeg
        · rw [if_pos w, if_pos (by omega), e4, q3, if_neg (by omega), show v4.toNatClampNeg = i - E by omega]
        · rw [if_neg w, q3 i]
          by_cases z : E ≤ i ∧ i < E + v4.toInt.toNat
          · rw [if_pos z, if_pos (by omega)]
          · rw [if_neg z, if_neg (by omega)]
  · exact ⟨rfl, rfl, by show 0 ≤ (0 : Int32).toInt; omega, by show (0 : Int32).toInt ≤ (E : Int); omega, fun _ _ => rfl, fun i => by show sg 27 i = if E ≤ i ∧ i < E + (0 : Int32).toInt.toNat then _ else sg 27 i; rw [if_neg (by omega)]⟩
set_option maxHeartbeats 4000000 in
theorem h_uni28 {v1 v2 : Int32} {sg : Sg} (b0 : 0 ≤ v1.toInt) (b1 : v1.toInt ≤ 5) : Ok (fun r => (∀ k, k ≠ 28 → r k = sg k) ∧ ∀ i, r 28 i = if 2 ^ v1.toInt.toNat ≤ i ∧ i < 2 ^ v1.toInt.toNat + 2 ^ v1.toInt.toNat then sg 28 (i - 2 ^ v1.toInt.toNat) ||| v2 else sg 28 i) (fX4_spreadUnion_c28 v1 v2 sg) := by
  have k0 : (0 : Int32).toInt = 0 := by decide
  have k1 : (1 : Int32).toInt = 1 := by decide
  have se := shl_is (v := v1) b0 (by omega)
  have sr := shl_i (v := v1) 5 32 (by decide) (by decide) (by omega) (by omega)
  unfold fX4_spreadUnion_c28
  refine ok_lt (fun x1 e1 => ?_)
  rw [← e1] at se sr
  obtain ⟨E, hE⟩ : ∃ E : Nat, E = 2 ^ v1.toInt.toNat := ⟨_, rfl⟩
  rw [← hE] at se ⊢
  unfold LX4_spreadUnion_c28_7
  refine ok_loop (I := fun (q : Int32 × Int32 × Int32 × Sg) => q.1 = v2 ∧ q.2.1 = x1 ∧ 0 ≤ q.2.2.1.toInt ∧ q.2.2.1.toInt ≤ (E : Int) ∧ (∀ k, k ≠ 28 → q.2.2.2 k = sg k) ∧ ∀ i, q.2.2.2 28 i = if E ≤ i ∧ i < E + q.2.2.1.toInt.toNat then sg 28 (i - E) ||| v2 else sg 28 i) (m := fun (q : Int32 × Int32 × Int32 × Sg) => (33 - q.2.2.1.toInt).toNat) _ ?_ ?_ _ ?_
  · intro q hq
    have := hq.2.2.1
    show (33 - q.2.2.1.toInt).toNat < 10000
    omega
  · intro rec q hq hrec
    obtain ⟨p2, p3, v4, s⟩ := q
    replace hq : p2 = v2 ∧ p3 = x1 ∧ 0 ≤ v4.toInt ∧ v4.toInt ≤ (E : Int) ∧ (∀ k, k ≠ 28 → s k = sg k) ∧ ∀ i, s 28 i = if E ≤ i ∧ i < E + v4.toInt.toNat then sg 28 (i - E) ||| v2 else sg 28 i := hq
    obtain ⟨e2, e3, q0, q1, q2, q3⟩ := hq
    subst e2 e3
    show Ok _ (fX4_spreadUnion_c28_7 rec p2 p3 v4 s)
    unfold fX4_spreadUnion_c28_7
    refine ok_ite (fun c => ?_) (fun c => ?_)
    · replace c := i_le.mp c
      refine ok_some ⟨q2, fun i => ?_⟩
      rw [q3 i, show v4.toInt.toNat = E by omega]
    · replace c := i_nle.mp c
      have f2 := add_i (a := p3) (b := v4) (by omega) (by omega)
      have g1 := cl_i (i := v4) (by omega)
      have g3 := cl_i (i := p3 + v4) (by omega)
      refine ok_gin (by omega) (by omega) ?_
      refine ok_lt (fun x3 e4 => ?_)
      refine ok_gin (by omega) (by omega) ?_
      refine ok_lt (fun s5 e6 => ?_)
      refine ok_lt (fun x6 e7 => ?_)
      replace e7 : x6.toInt = v4.toInt + 1 := by rw [e7]; exact add_c 1 k1 (by omega) (by omega)
      refine hrec (p2, p3, x6, s5) ⟨rfl, rfl, by show 0 ≤ x6.toInt; omega, by show x6.toInt ≤ (E : Int); omega, fun k hk => ?_, fun i => ?_⟩ (show (33 - x6.toInt).toNat < (33 - v4.toInt).toNat by omega)
      · show s5 k = sg k
        rw [e6, up2_n hk]; exact q2 k hk
      · show s5 28 i = if E ≤ i ∧ i < E + x6.toInt.toNat then sg 28 (i - E) ||| p2 else sg 28 i
        rw [e6, up2_is]
        by_cases w : 28 = 28 ∧ i = (p3 + v4).toNatClampNeg
        · rw [if_pos w, if_pos (by omega), e4, q3, if_neg (by omega), show v4.toNatClampNeg = i - E by omega]
        · rw [if_neg w, q3 i]
          by_cases z : E ≤ i ∧ i < E + v4.toInt.toNat
          · rw [if_pos z, if_pos (by omega)]
          · rw [if_neg z, if_neg (by omega)]
  · exact ⟨rfl, rfl, by show 0 ≤ (0 : Int32).toInt; omega, by show (0 : Int32).toInt ≤ (E : Int); omega, fun _ _ => rfl, fun i => by show sg 28 i = if E ≤ i ∧ i < E + (0 : Int32).toInt.toNat then _ else sg 28 i; rw [if_neg (by omega)]⟩
set_option maxHeartbeats 4000000 in
theorem h_uni29 {v1 v2 : Int32} {sg : Sg} (b0 : 0 ≤ v1.toInt) (b1 : v1.toInt ≤ 5) : Ok (fun r => (∀ k, k ≠ 29 → r k = sg k) ∧ ∀ i, r 29 i = if 2 ^ v1.toInt.toNat ≤ i ∧ i < 2 ^ v1.toInt.toNat + 2 ^ v1.toInt.toNat then sg 29 (i - 2 ^ v1.toInt.toNat) ||| v2 else sg 29 i) (fX4_spreadUnion_c29 v1 v2 sg) := by
  have k0 : (0 : Int32).toInt = 0 := by decide
  have k1 : (1 : Int32).toInt = 1 := by decide
  have se := shl_is (v := v1) b0 (by omega)
  have sr := shl_i (v := v1) 5 32 (by decide) (by decide) (by omega) (by omega)
  unfold fX4_spreadUnion_c29
  refine ok_lt (fun x1 e1 => ?_)
  rw [← e1] at se sr
  obtain ⟨E, hE⟩ : ∃ E : Nat, E = 2 ^ v1.toInt.toNat := ⟨_, rfl⟩
  rw [← hE] at se ⊢
  unfold LX4_spreadUnion_c29_7
  refine ok_loop (I := fun (q : Int32 × Int32 × Int32 × Sg) => q.1 = v2 ∧ q.2.1 = x1 ∧ 0 ≤ q.2.2.1.toInt ∧ q.2.2.1.toInt ≤ (E : Int) ∧ (∀ k, k ≠ 29 → q.2.2.2 k = sg k) ∧ ∀ i, q.2.2.2 29 i = if E ≤ i ∧ i < E + q.2.2.1.toInt.toNat then sg 29 (i - E) ||| v2 else sg 29 i) (m := fun (q : Int32 × Int32 × Int32 × Sg) => (33 - q.2.2.1.toInt).toNat) _ ?_ ?_ _ ?_
  · intro q hq
    have := hq.2.2.1
    show (33 - q.2.2.1.toInt).toNat < 10000
    omega
  · intro rec q hq hrec
    obtain ⟨p2, p3, v4, s⟩ := q
    replace hq : p2 = v2 ∧ p3 = x1 ∧ 0 ≤ v4.toInt ∧ v4.toInt ≤ (E : Int) ∧ (∀ k, k ≠ 29 → s k = sg k) ∧ ∀ i, s 29 i = if E ≤ i ∧ i < E + v4.toInt.toNat then sg 29 (i - E) ||| v2 else sg 29 i := hq
    obtain ⟨e2, e3, q0, q1, q2, q3⟩ := hq
    subst e2 e3
    show Ok _ (fX4_spreadUnion_c29_7 rec p2 p3 v4 s)
    unfold fX4_spreadUnion_c29_7
    refine ok_ite (fun c => ?_) (fun c => ?_)
    · replace c := i_le.mp c
      refine ok_some ⟨q2, fun i => ?_⟩
      rw [q3 i, show v4.toInt.toNat = E by omega]
    · replace c := i_nle.mp c
      have f2 := add_i (a := p3) (b := v4) (by omega) (by omega)
      have g1 := cl_i (i := v4) (by omega)
      have g3 := cl_i (i := p3 + v4) (by omega)
      refine ok_gin (by omega) (by omega) ?_
      refine ok_lt (fun x3 e4 => ?_)
      refine ok_gin (by omega) (by omega) ?_
      refine ok_lt (fun s5 e6 => ?_)
      refine ok_lt (fun x6 e7 => ?_)
      replace e7 : x6.toInt = v4.toInt + 1 := by rw [e7]; exact add_c 1 k1 (by omega) (by omega)
      refine hrec (p2, p3, x6, s5) ⟨rfl, rfl, by show 0 ≤ x6.toInt; omega, by show x6.toInt ≤ (E : Int); omega, fun k hk => ?_, fun i => ?_⟩ (show (33 - x6.toInt).toNat < (33 - v4.toInt).toNat by omega)
      · show s5 k = sg k
        rw [e6, up2_n hk]; exact q2 k hk
      · show s5 29 i = if E ≤ i ∧ i < E + x6.toInt.toNat then sg 29 (i - E) ||| p2 else sg 29 i
        rw [e6, up2_is]
        by_cases w : 29 = 29 ∧ i = (p3 + v4).toNatClampNeg
        · rw [if_pos w, if_pos (by omega), e4, q3, if_neg (by omega), show v4.toNatClampNeg = i - E by omega]
        · rw [if_neg w, q3 i]
          by_cases z : E ≤ i ∧ i < E + v4.toInt.toNat
          · rw [if_pos z, if_pos (by omega)]
          · rw [if_neg z, if_neg (by omega)]
  · exact ⟨rfl, rfl, by show 0 ≤ (0 : Int32).toInt; omega, by show (0 : Int32).toInt ≤ (E : Int); omega, fun _ _ => rfl, fun i => by show sg 29 i = if E ≤ i ∧ i < E + (0 : Int32).toInt.toNat then _ else sg 29 i; rw [if_neg (by omega)]⟩
set_option maxHeartbeats 4000000 in
theorem h_uni30 {v1 v2 : Int32} {sg : Sg} (b0 : 0 ≤ v1.toInt) (b1 : v1.toInt ≤ 5) : Ok (fun r => (∀ k, k ≠ 30 → r k = sg k) ∧ ∀ i, r 30 i = if 2 ^ v1.toInt.toNat ≤ i ∧ i < 2 ^ v1.toInt.toNat + 2 ^ v1.toInt.toNat then sg 30 (i - 2 ^ v1.toInt.toNat) ||| v2 else sg 30 i) (fX4_spreadUnion_c30 v1 v2 sg) := by
  have k0 : (0 : Int32).toInt = 0 := by decide
  have k1 : (1 : Int32).toInt = 1 := by decide
  have se := shl_is (v := v1) b0 (by omega)
  have sr := shl_i (v := v1) 5 32 (by decide) (by decide) (by omega) (by omega)
  unfold fX4_spreadUnion_c30
  refine ok_lt (fun x1 e1 => ?_)
  rw [← e1] at se sr
  obtain ⟨E, hE⟩ : ∃ E : Nat, E = 2 ^ v1.toInt.toNat := ⟨_, rfl⟩
  rw [← hE] at se ⊢
  unfold LX4_spreadUnion_c30_7
  refine ok_loop (I := fun (q : Int32 × Int32 × Int32 × Sg) => q.1 = v2 ∧ q.2.1 = x1 ∧ 0 ≤ q.2.2.1.toInt ∧ q.2.2.1.toInt ≤ (E : Int) ∧ (∀ k, k ≠ 30 → q.2.2.2 k = sg k) ∧ ∀ i, q.2.2.2 30 i = if E ≤ i ∧ i < E + q.2.2.1.toInt.toNat then sg 30 (i - E) ||| v2 else sg 30 i) (m := fun (q : Int32 × Int32 × Int32 × Sg) => (33 - q.2.2.1.toInt).toNat) _ ?_ ?_ _ ?_
  · intro q hq
    have := hq.2.2.1
    show (33 - q.2.2.1.toInt).toNat < 10000
    omega
  · intro rec q hq hrec
    obtain ⟨p2, p3, v4, s⟩ := q
    replace hq : p2 = v2 ∧ p3 = x1 ∧ 0 ≤ v4.toInt ∧ v4.toInt ≤ (E : Int) ∧ (∀ k, k ≠ 30 → s k = sg k) ∧ ∀ i, s 30 i = if E ≤ i ∧ i < E + v4.toInt.toNat then sg 30 (i - E) ||| v2 else sg 30 i := hq
    obtain ⟨e2, e3, q0, q1, q2, q3⟩ := hq
    subst e2 e3
    show Ok _ (fX4_spreadUnion_c30_7 rec p2 p3 v4 s)
    unfold fX4_spreadUnion_c30_7
    refine ok_ite (fun c => ?_) (fun c => ?_)
    · replace c := i_le.mp c
      refine ok_some ⟨q2, fun i => ?_⟩
      rw [q3 i, show v4.toInt.toNat = E by omega]
    · replace c := i_nle.mp c
      have f2 := add_i (a := p3) (b := v4) (by omega) (by omega)
      have g1 := cl_i (i := v4) (by omega)
      have g3 := cl_i (i := p3 + v4) (by omega)
      refine ok_gin (by omega) (by omega) ?_
      refine ok_lt (fun x3 e4 => ?_)
      refine ok_gin (by omega) (by omega) ?_
      refine ok_lt (fun s5 e6 => ?_)
      refine ok_lt (fun x6 e7 => ?_)
      replace e7 : x6.toInt = v4.toInt + 1 := by rw [e7]; exact add_c 1 k1 (by omega) (by omega)
      refine hrec (p2, p3, x6, s5) ⟨rfl, rfl, by show 0 ≤ x6.toInt; omega, by show x6.toInt ≤ (E : Int); omega, fun k hk => ?_, fun i => ?_⟩ (show (33 - x6.toInt).toNat < (33 - v4.toInt).toNat by omega)
      · show s5 k = sg k
        rw [e6, up2_n hk]; exact q2 k hk
      · show s5 30 i = if E ≤ i ∧ i < E + x6.toInt.toNat then sg 30 (i - E) ||| p2 else sg 30 i
        rw [e6, up2_is]
        by_cases w : 30 = 30 ∧ i = (p3 + v4).toNatClampNeg
        · rw [if_pos w, if_pos (by omega), e4, q3, if_neg (by omega), show v4.toNatClampNeg = i - E by omega]
        · rw [if_neg w, q3 i]
          by_cases z : E ≤ i ∧ i < E + v4.toInt.toNat
          · rw [if_pos z, if_pos (by omega)]
          · rw [if_neg z, if_neg (by omega)]
  · exact ⟨rfl, rfl, by show 0 ≤ (0 : Int32).toInt; omega, by show (0 : Int32).toInt ≤ (E : Int); omega, fun _ _ => rfl, fun i => by show sg 30 i = if E ≤ i ∧ i < E + (0 : Int32).toInt.toNat then _ else sg 30 i; rw [if_neg (by omega)]⟩
/-! what prepare lays: sums and unions over the bits of a set -/
def S6 (f : Nat → Int) (x : Nat) : Nat → Int
  | 0 => 0
  | n + 1 => S6 f x n + (if x.testBit n then f n else 0)
theorem tb_add {s x j : Nat} (hx : x < 2 ^ s) : (2 ^ s + x).testBit j = (x.testBit j || decide (s = j)) := by
  have e : 2 ^ s + x = 2 ^ s ||| x := by
    have := Nat.two_pow_add_eq_or_of_lt hx 1
    rw [Nat.mul_one] at this
    exact this
  rw [e, Nat.testBit_or, Nat.testBit_two_pow, Bool.or_comm]
theorem tb_hi {s x j : Nat} (hx : x < 2 ^ s) (hj : s ≤ j) : x.testBit j = false := Nat.testBit_lt_two_pow (Nat.lt_of_lt_of_le hx (Nat.pow_le_pow_right (by decide) hj))
/-- one more bit -/
theorem S6_add {f : Nat → Int} {s x : Nat} (hx : x < 2 ^ s) : ∀ n, S6 f (2 ^ s + x) n = S6 f x n + (if s < n then f s else 0)
  | 0 => by show (0 : Int) = 0 + _; rw [if_neg (by omega)]; rfl
  | n + 1 => by
    have ih := S6_add (f := f) hx n
    unfold S6
    rw [ih, tb_add hx]
    by_cases c : s = n
    · subst c
      rw [tb_hi hx (Nat.le_refl _)]
      simp
    · rw [decide_eq_false c, Bool.or_false]
      by_cases d : s < n
      · rw [if_pos d, if_pos (show s < n + 1 by omega)]; omega
      · rw [if_neg d, if_neg (show ¬ s < n + 1 by omega)]; omega
theorem S6_0 {f : Nat → Int} : ∀ n, S6 f 0 n = 0
  | 0 => rfl
  | n + 1 => by
    unfold S6
    rw [S6_0 n, Nat.zero_testBit]
    rfl
theorem S6_cg {f g : Nat → Int} {x : Nat} : ∀ n, (∀ j, j < n → f j = g j) → S6 f x n = S6 g x n
  | 0, _ => rfl
  | n + 1, h => by
    unfold S6
    rw [S6_cg n (fun j hj => h j (by omega)), h n (by omega)]
theorem S6_bd {f : Nat → Int} {x : Nat} {B : Int} (h : ∀ j, 0 ≤ f j ∧ f j ≤ B) (hB : 0 ≤ B) : ∀ n, 0 ≤ S6 f x n ∧ S6 f x n ≤ n * B
  | 0 => by
    show 0 ≤ (0 : Int) ∧ (0 : Int) ≤ ((0 : Nat) : Int) * B
    simp
  | n + 1 => by
    have ih := S6_bd (x := x) h hB n
    have hn := h n
    have e : ((n + 1 : Nat) : Int) * B = n * B + B := by rw [Int.natCast_add, Int.add_mul]; simp
    rw [e]
    unfold S6
    split <;> omega
/-- the unions of a set -/
def U6 (f : Nat → Nat → Prop) (x t : Nat) (n : Nat) : Prop := ∃ j, j < n ∧ x.testBit j = true ∧ f j t
theorem U6_add {f : Nat → Nat → Prop} {s x t n : Nat} (hx : x < 2 ^ s) (hs : s < n) : U6 f (2 ^ s + x) t n ↔ (U6 f x t n ∨ f s t) := by
  constructor
  · rintro ⟨j, a, b, c⟩
    rw [tb_add hx, Bool.or_eq_true, decide_eq_true_eq] at b
    rcases b with b | b
    · exact Or.inl ⟨j, a, b, c⟩
    · subst b; exact Or.inr c
  · rintro (⟨j, a, b, c⟩ | h)
    · exact ⟨j, a, by rw [tb_add hx, b, Bool.true_or], c⟩
    · exact ⟨s, hs, by rw [tb_add hx, decide_eq_true rfl, Bool.or_true], h⟩
theorem U6_0 {f : Nat → Nat → Prop} {t n : Nat} : ¬ U6 f 0 t n := by
  rintro ⟨j, _, b, _⟩
  rw [Nat.zero_testBit] at b
  cases b
theorem row_sum {R R' : Nat → Int32} {o s : Nat} {v : Int32} {f : Nat → Int} (hs : s < 6) (hf : ∀ j, 0 ≤ f j ∧ f j ≤ 1000000) (hv : v.toInt = f s) (h : ∀ x, x < 2 ^ s → (R (64 * o + x)).toInt = S6 f x 6) (e : ∀ i, R' i = if 64 * o + 2 ^ s ≤ i ∧ i < 64 * o + 2 ^ s + 2 ^ s then R (i - 2 ^ s) + v else R i) : ∀ x, x < 2 ^ (s + 1) → (R' (64 * o + x)).toInt = S6 f x 6 := by
  intro x hx
  rw [Nat.pow_succ] at hx
  rw [e]
  by_cases c : x < 2 ^ s
  · rw [if_neg (by omega)]; exact h x c
  · rw [if_pos (by omega)]
    obtain ⟨y, hy⟩ : ∃ y, x = 2 ^ s + y := ⟨x - 2 ^ s, by omega⟩
    subst hy
    have hy2 : y < 2 ^ s := by omega
    have hR := h y hy2
    have b := S6_bd (x := y) hf (by decide) 6
    have fs := hf s
    rw [show 64 * o + (2 ^ s + y) - 2 ^ s = 64 * o + y by omega, add_i (by omega) (by omega), hR, hv, S6_add hy2, if_pos hs]
theorem row_oth {R R' : Nat → Int32} {o o' s x : Nat} {v : Int32} (hs : s < 6) (ho : o' ≠ o) (hx : x < 64) (e : ∀ i, R' i = if 64 * o + 2 ^ s ≤ i ∧ i < 64 * o + 2 ^ s + 2 ^ s then R (i - 2 ^ s) + v else R i) : R' (64 * o' + x) = R (64 * o' + x) := by
  have h1 : 2 ^ s ≤ 2 ^ 5 := Nat.pow_le_pow_right (by decide) (by omega)
  have h2 : (2 ^ 5 : Nat) = 32 := by decide
  rw [e, if_neg (by omega)]
theorem or_n {a b : Int32} (a0 : 0 ≤ a.toInt) (a1 : a.toInt ≤ 4095) (b0 : 0 ≤ b.toInt) (b1 : b.toInt ≤ 4095) : (a ||| b).toInt.toNat = a.toInt.toNat ||| b.toInt.toNat ∧ 0 ≤ (a ||| b).toInt ∧ (a ||| b).toInt ≤ 4095 := by
  have g := or_i (a := a) (b := b) 12 4096 (by decide) (by decide) a0 (by omega) b0 (by omega)
  have n1 := nn_i a0
  have n2 := nn_i b0
  have n3 := nn_i g.1
  have o := nat_or a b
  rw [show a.toBitVec.toNat = a.toInt.toNat by omega, show b.toBitVec.toNat = b.toInt.toNat by omega] at o
  omega
theorem bt_or2 {a b : Int32} {t : Nat} (a0 : 0 ≤ a.toInt) (a1 : a.toInt ≤ 4095) (b0 : 0 ≤ b.toInt) (b1 : b.toInt ≤ 4095) (ht : t < 12) : bt (a ||| b) t ↔ (bt a t ∨ bt b t) := by
  have o := ofn_n ht
  have n := or_n a0 a1 b0 b1
  unfold bt
  rw [bit_n n.2.1 (by omega) (by omega), bit_n a0 (by omega) (by omega), bit_n b0 (by omega) (by omega), n.1, Nat.testBit_or, Bool.or_eq_true]
theorem row_uni {R R' : Nat → Int32} {s : Nat} {v : Int32} {f : Nat → Nat → Prop} (hs : s < 6) (hR : ∀ i, 0 ≤ (R i).toInt ∧ (R i).toInt ≤ 4095) (v0 : 0 ≤ v.toInt) (v1 : v.toInt ≤ 4095) (hv : ∀ t, t < 12 → (bt v t ↔ f s t)) (h : ∀ x t, x < 2 ^ s → t < 12 → (bt (R x) t ↔ U6 f x t 6)) (e : ∀ i, R' i = if 2 ^ s ≤ i ∧ i < 2 ^ s + 2 ^ s then R (i - 2 ^ s) ||| v else R i) : ∀ x t, x < 2 ^ (s + 1) → t < 12 → (bt (R' x) t ↔ U6 f x t 6) := by
  intro x t hx ht
  rw [Nat.pow_succ] at hx
  rw [e]
  by_cases c : x < 2 ^ s
  · rw [if_neg (by omega)]; exact h x t c ht
  · rw [if_pos (by omega)]
    obtain ⟨y, hy⟩ : ∃ y, x = 2 ^ s + y := ⟨x - 2 ^ s, by omega⟩
    subst hy
    have hy2 : y < 2 ^ s := by omega
    have r := hR y
    rw [show 2 ^ s + y - 2 ^ s = y by omega, bt_or2 r.1 r.2 v0 v1 ht, h y t hy2 ht, hv t ht, U6_add hy2 hs]
/-! prepare: the loop over the others, low and high -/
def pk (sg : Sg) (o j : Nat) : Int := (sg 23 (12 * o + j)).toInt
theorem peckOf_c {v1 v2 : Int32} {sg : Sg} (a0 : 0 ≤ v1.toInt) (a1 : v1.toInt ≤ 11) (b0 : 0 ≤ v2.toInt) (b1 : v2.toInt ≤ 11) : fX8_peckOf v1 v2 sg = some (sg 23 (12 * v1.toNatClampNeg + v2.toNatClampNeg), sg) := by
  have ic := ix_c (v1 := v1) (v2 := v2) a0 a1 b0 (by omega)
  unfold fX8_peckOf
  show gin ((v1 * (12 : Int32)) + v2) 144 (some ((sg 23 ((v1 * (12 : Int32)) + v2).toNatClampNeg), sg)) = _
  rw [gin_in (vin_i (by omega) (by omega)), ic.1]
/-- rows below o have one more bit -/
def CS (c s b : Nat) (C r : Sg) (o : Nat) : Prop := (∀ k, k ≠ c → r k = C k) ∧ (∀ o' x, o' < o → x < 2 ^ (b + 1) → (r c (64 * o' + x)).toInt = S6 (fun j => pk C o' (s - b + j)) x 6) ∧ (∀ o' x, o ≤ o' → x < 64 → r c (64 * o' + x) = C c (64 * o' + x))

set_option maxHeartbeats 4000000 in
theorem h_130_25 {C : Sg} {r35 : (Int32 × Sg) → Option Sg} {P : Sg → Prop} {v1 v3 : Int32} (hI : IC0 C) (a0 : 0 ≤ v1.toInt) (a1 : v1.toInt < (C 3 2).toInt) (hb : v1.toInt ≤ 5 ∧ v3.toInt = v1.toInt) (h : ∀ o x, o < (C 3 2).toInt.toNat → x < 2 ^ v3.toInt.toNat → (C 25 (64 * o + x)).toInt = S6 (fun j => pk C o (v1.toInt.toNat - v3.toInt.toNat + j)) x 6)
    (hr : ∀ (x : Int32) (sg' : Sg), x.toInt = v1.toInt + 1 → CS 25 v1.toInt.toNat v3.toInt.toNat C sg' (C 3 2).toInt.toNat → Ok P (r35 (x, sg'))) : Ok P (LX4_prepare_130 r35 (v1, (1 : Int32), v3, (0 : Int32), C)) := by
  have k0 : (0 : Int32).toInt = 0 := by decide
  have k1 : (1 : Int32).toInt = 1 := by decide
  have hn := rdC3_2 hI
  have hc1 := cl_i a0
  have p32 : 2 ^ v3.toInt.toNat ≤ 2 ^ 5 := Nat.pow_le_pow_right (by decide) (by omega)
  have p5 : (2 ^ 5 : Nat) = 32 := by decide
  unfold LX4_prepare_130
  refine ok_loop (I := fun (q : Int32 × Int32 × Int32 × Int32 × Sg) => q.1 = v1 ∧ q.2.1 = (1 : Int32) ∧ q.2.2.1 = v3 ∧ 0 ≤ q.2.2.2.1.toInt ∧ q.2.2.2.1.toInt ≤ (C 3 2).toInt ∧ CS 25 v1.toInt.toNat v3.toInt.toNat C q.2.2.2.2 q.2.2.2.1.toInt.toNat) (m := fun (q : Int32 × Int32 × Int32 × Int32 × Sg) => (13 - q.2.2.2.1.toInt).toNat) _ ?_ ?_ _ ?_
  · intro q hq
    have := hq.2.2.2.1
    show (13 - q.2.2.2.1.toInt).toNat < 10000
    omega
  · intro rec q hq hrec
    obtain ⟨p1, p2, p3, v4, s⟩ := q
    replace hq : p1 = v1 ∧ p2 = (1 : Int32) ∧ p3 = v3 ∧ 0 ≤ v4.toInt ∧ v4.toInt ≤ (C 3 2).toInt ∧ CS 25 v1.toInt.toNat v3.toInt.toNat C s v4.toInt.toNat := hq
    obtain ⟨e1, e2, e3, q0, q1, q2⟩ := hq
    subst e1 e2 e3
    show Ok P (fX4_prepare_130 r35 rec p1 (1 : Int32) p3 v4 s)
    unfold fX4_prepare_130
    have hc4 := cl_i q0
    rw [q2.1 3 (by decide)]
    refine ok_ite (fun c => ?_) (fun c => ?_)
    · replace c := i_le.mp c
      refine ok_lt (fun x ex => ?_)
      replace ex : x.toInt = p1.toInt + 1 := by rw [ex]; exact add_c 1 k1 (by omega) (by omega)
      rw [show v4.toInt.toNat = (C 3 2).toInt.toNat by omega] at q2
      exact hr x s ex q2
    · replace c := i_nle.mp c
      rw [ite1]
      refine bnd2_of (peckOf_c q0 (by omega) a0 (by omega)) ?_
      have f1 := mul_r (a := v4) (b := (64 : Int32)) 64 (by decide) (by omega) (by omega)
      refine ok_bnd1 (h_sum25 (v1 := v4 * (64 : Int32)) (v2 := p3) (by omega) (by omega) (by omega) (by omega)) (fun s7 h7 => ?_)
      obtain ⟨g1, g2⟩ := h7
      rw [show (v4 * (64 : Int32)).toInt.toNat = 64 * v4.toInt.toNat by omega] at g2
      refine ok_lt (fun x ex => ?_)
      replace ex : x.toInt = v4.toInt + 1 := by rw [ex]; exact add_c 1 k1 (by omega) (by omega)
      have r23 := fun o j => rdC23 hI (j := 12 * o + j)
      have hx := row_sum (R := s 25) (R' := s7 25) (o := v4.toInt.toNat) (f := fun j => pk C v4.toInt.toNat (p1.toInt.toNat - p3.toInt.toNat + j)) (by omega) (fun j => r23 _ _) (by rw [q2.1 23 (by decide)]; show _ = (C 23 (12 * v4.toInt.toNat + (p1.toInt.toNat - p3.toInt.toNat + p3.toInt.toNat))).toInt; rw [show 12 * v4.toNatClampNeg + p1.toNatClampNeg = 12 * v4.toInt.toNat + (p1.toInt.toNat - p3.toInt.toNat + p3.toInt.toNat) by omega]) (fun x hx => by rw [q2.2.2 _ x (Nat.le_refl _) (by omega)]; exact h _ x (by omega) hx) g2
      refine hrec (p1, (1 : Int32), p3, x, s7) ⟨rfl, rfl, rfl, by show 0 ≤ x.toInt; omega, by show x.toInt ≤ (C 3 2).toInt; omega, fun k hk => ?_, fun o' y ho hy => ?_, fun o' y ho hy => ?_⟩ (show (13 - x.toInt).toNat < (13 - v4.toInt).toNat by omega)
      · show s7 k = C k
        rw [g1 k hk]; exact q2.1 k hk
      · replace ho : o' < x.toInt.toNat := ho
        show (s7 25 (64 * o' + y)).toInt = S6 (fun j => pk C o' (p1.toInt.toNat - p3.toInt.toNat + j)) y 6
        by_cases w : o' = v4.toInt.toNat
        · rw [w]; exact hx y hy
        · have hy' := hy
          rw [Nat.pow_succ] at hy'
          rw [row_oth (s := p3.toInt.toNat) (by omega) w (by omega) g2]
          exact q2.2.1 o' y (by omega) hy
      · replace ho : x.toInt.toNat ≤ o' := ho
        show s7 25 (64 * o' + y) = C 25 (64 * o' + y)
        rw [row_oth (s := p3.toInt.toNat) (by omega) (by omega) hy g2]
        exact q2.2.2 o' y (by omega) hy
  · exact ⟨rfl, rfl, rfl, by show 0 ≤ (0 : Int32).toInt; omega, by show (0 : Int32).toInt ≤ (C 3 2).toInt; omega, fun _ _ => rfl, fun o' y ho _ => by have ho' : o' < (0 : Int32).toInt.toNat := ho; rw [k0] at ho'; exact absurd ho' (Nat.not_lt_zero _), fun _ _ _ _ => rfl⟩
set_option maxHeartbeats 4000000 in
theorem h_130_26 {C : Sg} {r35 : (Int32 × Sg) → Option Sg} {P : Sg → Prop} {v1 v3 : Int32} (hI : IC0 C) (a0 : 0 ≤ v1.toInt) (a1 : v1.toInt < (C 3 2).toInt) (hb : 6 ≤ v1.toInt ∧ v3.toInt = v1.toInt - 6) (h : ∀ o x, o < (C 3 2).toInt.toNat → x < 2 ^ v3.toInt.toNat → (C 26 (64 * o + x)).toInt = S6 (fun j => pk C o (v1.toInt.toNat - v3.toInt.toNat + j)) x 6)
    (hr : ∀ (x : Int32) (sg' : Sg), x.toInt = v1.toInt + 1 → CS 26 v1.toInt.toNat v3.toInt.toNat C sg' (C 3 2).toInt.toNat → Ok P (r35 (x, sg'))) : Ok P (LX4_prepare_130 r35 (v1, (0 : Int32), v3, (0 : Int32), C)) := by
  have k0 : (0 : Int32).toInt = 0 := by decide
  have k1 : (1 : Int32).toInt = 1 := by decide
  have hn := rdC3_2 hI
  have hc1 := cl_i a0
  have p32 : 2 ^ v3.toInt.toNat ≤ 2 ^ 5 := Nat.pow_le_pow_right (by decide) (by omega)
  have p5 : (2 ^ 5 : Nat) = 32 := by decide
  unfold LX4_prepare_130
  refine ok_loop (I := fun (q : Int32 × Int32 × Int32 × Int32 × Sg) => q.1 = v1 ∧ q.2.1 = (0 : Int32) ∧ q.2.2.1 = v3 ∧ 0 ≤ q.2.2.2.1.toInt ∧ q.2.2.2.1.toInt ≤ (C 3 2).toInt ∧ CS 26 v1.toInt.toNat v3.toInt.toNat C q.2.2.2.2 q.2.2.2.1.toInt.toNat) (m := fun (q : Int32 × Int32 × Int32 × Int32 × Sg) => (13 - q.2.2.2.1.toInt).toNat) _ ?_ ?_ _ ?_
  · intro q hq
    have := hq.2.2.2.1
    show (13 - q.2.2.2.1.toInt).toNat < 10000
    omega
  · intro rec q hq hrec
    obtain ⟨p1, p2, p3, v4, s⟩ := q
    replace hq : p1 = v1 ∧ p2 = (0 : Int32) ∧ p3 = v3 ∧ 0 ≤ v4.toInt ∧ v4.toInt ≤ (C 3 2).toInt ∧ CS 26 v1.toInt.toNat v3.toInt.toNat C s v4.toInt.toNat := hq
    obtain ⟨e1, e2, e3, q0, q1, q2⟩ := hq
    subst e1 e2 e3
    show Ok P (fX4_prepare_130 r35 rec p1 (0 : Int32) p3 v4 s)
    unfold fX4_prepare_130
    have hc4 := cl_i q0
    rw [q2.1 3 (by decide)]
    refine ok_ite (fun c => ?_) (fun c => ?_)
    · replace c := i_le.mp c
      refine ok_lt (fun x ex => ?_)
      replace ex : x.toInt = p1.toInt + 1 := by rw [ex]; exact add_c 1 k1 (by omega) (by omega)
      rw [show v4.toInt.toNat = (C 3 2).toInt.toNat by omega] at q2
      exact hr x s ex q2
    · replace c := i_nle.mp c
      rw [ite0]
      refine bnd2_of (peckOf_c q0 (by omega) a0 (by omega)) ?_
      have f1 := mul_r (a := v4) (b := (64 : Int32)) 64 (by decide) (by omega) (by omega)
      refine ok_bnd1 (h_sum26 (v1 := v4 * (64 : Int32)) (v2 := p3) (by omega) (by omega) (by omega) (by omega)) (fun s7 h7 => ?_)
      obtain ⟨g1, g2⟩ := h7
      rw [show (v4 * (64 : Int32)).toInt.toNat = 64 * v4.toInt.toNat by omega] at g2
      refine ok_lt (fun x ex => ?_)
      replace ex : x.toInt = v4.toInt + 1 := by rw [ex]; exact add_c 1 k1 (by omega) (by omega)
      have r23 := fun o j => rdC23 hI (j := 12 * o + j)
      have hx := row_sum (R := s 26) (R' := s7 26) (o := v4.toInt.toNat) (f := fun j => pk C v4.toInt.toNat (p1.toInt.toNat - p3.toInt.toNat + j)) (by omega) (fun j => r23 _ _) (by rw [q2.1 23 (by decide)]; show _ = (C 23 (12 * v4.toInt.toNat + (p1.toInt.toNat - p3.toInt.toNat + p3.toInt.toNat))).toInt; rw [show 12 * v4.toNatClampNeg + p1.toNatClampNeg = 12 * v4.toInt.toNat + (p1.toInt.toNat - p3.toInt.toNat + p3.toInt.toNat) by omega]) (fun x hx => by rw [q2.2.2 _ x (Nat.le_refl _) (by omega)]; exact h _ x (by omega) hx) g2
      refine hrec (p1, (0 : Int32), p3, x, s7) ⟨rfl, rfl, rfl, by show 0 ≤ x.toInt; omega, by show x.toInt ≤ (C 3 2).toInt; omega, fun k hk => ?_, fun o' y ho hy => ?_, fun o' y ho hy => ?_⟩ (show (13 - x.toInt).toNat < (13 - v4.toInt).toNat by omega)
      · show s7 k = C k
        rw [g1 k hk]; exact q2.1 k hk
      · replace ho : o' < x.toInt.toNat := ho
        show (s7 26 (64 * o' + y)).toInt = S6 (fun j => pk C o' (p1.toInt.toNat - p3.toInt.toNat + j)) y 6
        by_cases w : o' = v4.toInt.toNat
        · rw [w]; exact hx y hy
        · have hy' := hy
          rw [Nat.pow_succ] at hy'
          rw [row_oth (s := p3.toInt.toNat) (by omega) w (by omega) g2]
          exact q2.2.1 o' y (by omega) hy
      · replace ho : x.toInt.toNat ≤ o' := ho
        show s7 26 (64 * o' + y) = C 26 (64 * o' + y)
        rw [row_oth (s := p3.toInt.toNat) (by omega) (by omega) hy g2]
        exact q2.2.2 o' y (by omega) hy
  · exact ⟨rfl, rfl, rfl, by show 0 ≤ (0 : Int32).toInt; omega, by show (0 : Int32).toInt ≤ (C 3 2).toInt; omega, fun _ _ => rfl, fun o' y ho _ => by have ho' : o' < (0 : Int32).toInt.toNat := ho; rw [k0] at ho'; exact absurd ho' (Nat.not_lt_zero _), fun _ _ _ _ => rfl⟩
