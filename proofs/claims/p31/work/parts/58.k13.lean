/-! who may stand next, by slots -/
def CH (sg : Sg) (x j : Nat) : Prop := j < (sg 3 2).toInt.toNat ∧ x.testBit j = false ∧ (∀ k, k < (sg 3 2).toInt.toNat → x.testBit k = false → ¬ bt (sg 21 k) j) ∧ (∀ k, k < (sg 3 2).toInt.toNat → x.testBit k = false → U6 (fun i t => bt (sg 22 i) t) x k 12 → k = j)
theorem bt_n {x : Int32} {t : Nat} (x0 : 0 ≤ x.toInt) (ht : t < 12) : bt x t ↔ x.toInt.toNat.testBit t = true := by
  have o := ofn_n ht
  have b := bit_n (a := x) (v := Int32.ofNat t) x0 (by omega) (by omega)
  rw [o, Int.toNat_natCast] at b
  exact b
theorem one_sq : ∀ a, a < 64 → ∀ b, b < 64 → (64 * a + b) &&& (64 * a + b - 1) = 0 → 64 * a + b = 0 ∨ ∃ i, i < 12 ∧ 64 * a + b = 2 ^ i := by decide +kernel
theorem one_all (d : Nat) (hd : d < 4096) (h : d &&& (d - 1) = 0) : d = 0 ∨ ∃ i, i < 12 ∧ d = 2 ^ i := by
  have e : 64 * (d / 64) + d % 64 = d := by omega
  have := one_sq (d / 64) (by omega) (d % 64) (by omega)
  rw [e] at this
  exact this h
theorem one_pow : ∀ i, i < 12 → 2 ^ i &&& (2 ^ i - 1) = 0 := by decide +kernel
theorem one_i {d : Int32} (d0 : 0 ≤ d.toInt) (d1 : d.toInt ≤ 4095) : (d &&& (d - (1 : Int32))) = 0 ↔ ∀ i j, d.toInt.toNat.testBit i = true → d.toInt.toNat.testBit j = true → i = j := by
  have k0 : (0 : Int32).toInt = 0 := by decide
  by_cases z : d.toInt = 0
  · have e : d = 0 := Int32.toInt_inj.mp (by rw [z]; decide)
    subst e
    refine ⟨fun _ i j h => ?_, fun _ => by decide⟩
    have e0 : (0 : Int32).toInt.toNat = 0 := by decide
    rw [e0, Nat.zero_testBit] at h
    cases h
  · have f := sub_c (a := d) (b := (1 : Int32)) 1 (by decide) (by omega) (by omega)
    have n := and_n (a := d) (b := d - (1 : Int32)) d0 (by omega)
    rw [show (d - (1 : Int32)).toInt.toNat = d.toInt.toNat - 1 by omega] at n
    have e : (d &&& (d - (1 : Int32))) = 0 ↔ d.toInt.toNat &&& (d.toInt.toNat - 1) = 0 := by
      rw [i_eq, k0, ← n.1]
      have := n.2
      omega
    rw [e]
    constructor
    · intro h i j hi hj
      rcases one_all _ (by omega) h with y | ⟨p, p1, p2⟩
      · omega
      · rw [p2, Nat.testBit_two_pow, decide_eq_true_eq] at hi hj
        omega
    · intro h
      obtain ⟨i, hi⟩ : ∃ i, d.toInt.toNat.testBit i = true := Nat.exists_testBit_of_ne_zero (by omega)
      have i12 : i < 12 := tb_lt (n := 12) (by have : (2 : Nat) ^ 12 = 4096 := by decide
                                               omega) hi
      have ed : d.toInt.toNat = 2 ^ i := by
        refine Nat.eq_of_testBit_eq fun j => ?_
        rw [Nat.testBit_two_pow]
        cases hj : d.toInt.toNat.testBit j
        · by_cases w : i = j
          · rw [w] at hi; rw [hi] at hj; cases hj
          · rw [decide_eq_false w]
        · rw [h i j hi hj, decide_eq_true rfl]
      rw [ed]
      exact one_pow i i12
set_option maxHeartbeats 4000000 in
theorem choices_is {sg : Sg} {a : Int32} (hI : IC0 sg) (hH : HC sg) (a0 : 0 ≤ a.toInt) (a1 : a.toInt.toNat < 2 ^ (sg 3 2).toInt.toNat) : ∃ O, fX9_choices a sg = some (O, sg) ∧ 0 ≤ O.toInt ∧ O.toInt ≤ 4095 ∧ ∀ j, O.toInt.toNat.testBit j = true ↔ CH sg a.toInt.toNat j := by
  have k0 : (0 : Int32).toInt = 0 := by decide
  have hn := rdC3_2 hI
  have a4 := lt4096 a1 (by omega)
  obtain ⟨y, ey, y1, y2⟩ := all_is hI
  have pp : 0 < 2 ^ (sg 3 2).toInt.toNat := Nat.pow_pos (by decide)
  obtain ⟨left, eL⟩ : ∃ left, left = y &&& (a ^^^ (-1 : Int32)) := ⟨_, rfl⟩
  have cp := tb_cpl (y := y) (v := a) (by omega) a0
  have al := and_l (a := y) (b := a ^^^ (-1 : Int32)) (by omega)
  rw [← eL] at cp al
  rw [y2] at cp
  have inL : ∀ j, left.toInt.toNat.testBit j = true ↔ (j < (sg 3 2).toInt.toNat ∧ a.toInt.toNat.testBit j = false) := fun j => by
    rw [cp j, tb_all, Bool.and_eq_true, decide_eq_true_eq, Bool.not_eq_true']
  have l2 : left.toInt.toNat < 2 ^ (sg 3 2).toInt.toNat := lt_of_tb (fun j hj => ((inL j).mp hj).1)
  have l4 := lt4096 l2 (by omega)
  obtain ⟨p, ep, p0, p1, p2⟩ := pairs_is hI hH a0 a1
  obtain ⟨b, eb, b0, b1, b2⟩ := below_is (a := left) hI hH al.1 l2
  have an := and_n (a := p) (b := left) p0 al.1
  have ar := and_l (a := p) (b := left) p0
  have inD : ∀ k, (p &&& left).toInt.toNat.testBit k = true ↔ (k < (sg 3 2).toInt.toNat ∧ a.toInt.toNat.testBit k = false ∧ U6 (fun i t => bt (sg 22 i) t) a.toInt.toNat k 12) := fun k => by
    rw [an.1, Nat.testBit_and, Bool.and_eq_true, inL k]
    constructor
    · rintro ⟨h1, h2, h3⟩
      exact ⟨h2, h3, (p2 k (by omega)).mp ((bt_n p0 (by omega)).mpr h1)⟩
    · rintro ⟨h1, h2, h3⟩
      exact ⟨(bt_n p0 (by omega)).mp ((p2 k (by omega)).mpr h3), h1, h2⟩
  -- those that must stand below none of the rest
  have fin : ∀ w : Int32, 0 ≤ w.toInt → w.toInt ≤ 4095 → (∀ j, w.toInt.toNat.testBit j = true → j < (sg 3 2).toInt.toNat) → ∃ O, fX9_choices_42 left w sg = some (O, sg) ∧ 0 ≤ O.toInt ∧ O.toInt ≤ 4095 ∧ ∀ j, O.toInt.toNat.testBit j = true ↔ (w.toInt.toNat.testBit j = true ∧ ∀ k, k < (sg 3 2).toInt.toNat → a.toInt.toNat.testBit k = false → ¬ bt (sg 21 k) j) := by
    intro w w0 w1 wn
    have c2 := tb_cpl (y := w) (v := b) w0 b0
    have g := and_l (a := w) (b := b ^^^ (-1 : Int32)) w0
    refine ⟨w &&& (b ^^^ (-1 : Int32)), ?_, g.1, by omega, fun j => ?_⟩
    · unfold fX9_choices_42
      rw [eb]
      rfl
    · rw [c2 j, Bool.and_eq_true, Bool.not_eq_true']
      constructor
      · rintro ⟨h1, h2⟩
        have j12 := wn j h1
        refine ⟨h1, fun k hk hb hbt => ?_⟩
        have : b.toInt.toNat.testBit j = true := (bt_n b0 (by omega)).mp ((b2 j (by omega)).mpr ⟨k, by omega, (inL k).mpr ⟨hk, hb⟩, hbt⟩)
        rw [h2] at this
        cases this
      · rintro ⟨h1, h2⟩
        have j12 := wn j h1
        refine ⟨h1, ?_⟩
        cases hb : b.toInt.toNat.testBit j
        · rfl
        · obtain ⟨k, k1, k2, k3⟩ := (b2 j (by omega)).mp ((bt_n b0 (by omega)).mpr hb)
          have := (inL k).mp k2
          exact absurd k3 (h2 k this.1 this.2)
  unfold fX9_choices
  rw [ey]
  show ∃ O, lt (y &&& (a ^^^ (-1 : Int32))) (fun x4 => bnd2 (fX4_pairsOf a sg) (fun y5 sg6 => lt (y5 &&& x4) (fun x8 => (if (x8 &&& (x8 - (1 : Int32))) = 0 then (if x8 = 0 then fX9_choices_42 x4 x4 sg6 else fX9_choices_42 x4 x8 sg6) else some ((0 : Int32), sg6))))) = some (O, sg) ∧ _
  rw [← eL, ep]
  show ∃ O, (if ((p &&& left) &&& ((p &&& left) - (1 : Int32))) = 0 then (if (p &&& left) = 0 then fX9_choices_42 left left sg else fX9_choices_42 left (p &&& left) sg) else some ((0 : Int32), sg)) = some (O, sg) ∧ _
  by_cases c : ((p &&& left) &&& ((p &&& left) - (1 : Int32))) = 0
  · rw [if_pos c]
    have one := (one_i ar.1 (by omega)).mp c
    by_cases d : (p &&& left) = 0
    · rw [if_pos d]
      obtain ⟨O, f1, f2, f3, f4⟩ := fin left al.1 (by omega) (fun j hj => ((inL j).mp hj).1)
      refine ⟨O, f1, f2, f3, fun j => ?_⟩
      rw [f4 j, inL j]
      constructor
      · rintro ⟨⟨h1, h2⟩, h3⟩
        refine ⟨h1, h2, h3, fun k hk hb hu => ?_⟩
        have := (inD k).mpr ⟨hk, hb, hu⟩
        rw [d] at this
        have e0 : (0 : Int32).toInt.toNat = 0 := by decide
        rw [e0, Nat.zero_testBit] at this
        cases this
      · rintro ⟨h1, h2, h3, -⟩
        exact ⟨⟨h1, h2⟩, h3⟩
    · rw [if_neg d]
      obtain ⟨O, f1, f2, f3, f4⟩ := fin (p &&& left) ar.1 (by omega) (fun j hj => ((inD j).mp hj).1)
      refine ⟨O, f1, f2, f3, fun j => ?_⟩
      rw [f4 j]
      constructor
      · rintro ⟨h1, h3⟩
        have h1' := (inD j).mp h1
        exact ⟨h1'.1, h1'.2.1, h3, fun k hk hb hu => one k j ((inD k).mpr ⟨hk, hb, hu⟩) h1⟩
      · rintro ⟨h1, h2, h3, h4⟩
        refine ⟨?_, h3⟩
        have ne : (p &&& left).toInt.toNat ≠ 0 := fun z => d (Int32.toInt_inj.mp (by rw [k0]; have := ar.1; omega))
        obtain ⟨i, hi⟩ := Nat.exists_testBit_of_ne_zero ne
        have hi' := (inD i).mp hi
        have := h4 i hi'.1 hi'.2.1 hi'.2.2
        rw [← this]; exact hi
  · rw [if_neg c]
    refine ⟨0, rfl, by decide, by decide, fun j => ?_⟩
    have e0 : (0 : Int32).toInt.toNat = 0 := by decide
    rw [e0, Nat.zero_testBit]
    refine ⟨fun z => absurd z (by decide), fun h => absurd ((one_i ar.1 (by omega)).mpr (fun i k hi hk => ?_)) c⟩
    have hi' := (inD i).mp hi
    have hk' := (inD k).mp hk
    rw [h.2.2.2 i hi'.1 hi'.2.1 hi'.2.2, h.2.2.2 k hk'.1 hk'.2.1 hk'.2.2]
/-! sums over those of which something holds -/
noncomputable def SF (p : Nat → Prop) (w : Nat → Int) : Nat → Int
  | 0 => 0
  | n + 1 => SF p w n + @ite Int (p n) (Classical.propDecidable _) (w n) 0
theorem SF_p {p : Nat → Prop} {w : Nat → Int} {n : Nat} (h : p n) : SF p w (n + 1) = SF p w n + w n := by
  show SF p w n + @ite Int (p n) (Classical.propDecidable _) (w n) 0 = _
  rw [if_pos h]
theorem SF_n {p : Nat → Prop} {w : Nat → Int} {n : Nat} (h : ¬ p n) : SF p w (n + 1) = SF p w n := by
  show SF p w n + @ite Int (p n) (Classical.propDecidable _) (w n) 0 = _
  rw [if_neg h, Int.add_zero]
theorem SF_cg {p q : Nat → Prop} {w w' : Nat → Int} : ∀ n, (∀ j, j < n → (p j ↔ q j)) → (∀ j, j < n → p j → w j = w' j) → SF p w n = SF q w' n
  | 0, _, _ => rfl
  | n + 1, h, h2 => by
    have ih := SF_cg n (fun j hj => h j (by omega)) (fun j hj => h2 j (by omega))
    have hn := h n (by omega)
    by_cases c : p n
    · rw [SF_p c, SF_p (hn.mp c), ih, h2 n (by omega) c]
    · rw [SF_n c, SF_n (fun z => c (hn.mpr z)), ih]
theorem SF_0 {p : Nat → Prop} {w : Nat → Int} : ∀ n, (∀ j, j < n → p j → w j = 0) → SF p w n = 0
  | 0, _ => rfl
  | n + 1, h => by
    have ih := SF_0 n (fun j hj => h j (by omega))
    by_cases c : p n
    · rw [SF_p c, ih, h n (by omega) c]; rfl
    · rw [SF_n c, ih]
theorem SF_bd {p : Nat → Prop} {w : Nat → Int} {b : Nat → Bool} {F : Nat} : ∀ n, (∀ j, j < n → p j → b j = true ∧ 0 ≤ w j ∧ w j ≤ (F : Int)) → 0 ≤ SF p w n ∧ SF p w n ≤ ((cn b n * F : Nat) : Int)
  | 0, _ => by
    show 0 ≤ (0 : Int) ∧ (0 : Int) ≤ ((0 * F : Nat) : Int)
    simp
  | n + 1, h => by
    have ih := SF_bd (F := F) n (fun j hj => h j (by omega))
    have e : cn b (n + 1) = cn b n + (if b n then 1 else 0) := rfl
    by_cases c : p n
    · have hn := h n (by omega) c
      rw [SF_p c, e, if_pos hn.1, Nat.add_mul, Nat.one_mul]
      omega
    · rw [SF_n c, e, Nat.add_mul]
      omega
def fc : Nat → Nat
  | 0 => 1
  | n + 1 => (n + 1) * fc n
theorem fc_pos : ∀ n, 1 ≤ fc n
  | 0 => Nat.le_refl _
  | n + 1 => by
    have := fc_pos n
    have e : fc (n + 1) = n * fc n + fc n := by show (n + 1) * fc n = _; rw [Nat.add_mul, Nat.one_mul]
    omega
theorem fc_mono {m : Nat} : ∀ {n : Nat}, m ≤ n → fc m ≤ fc n := by
  intro n h
  induction n with
  | zero => rw [show m = 0 by omega]; exact Nat.le_refl _
  | succ n ih =>
    by_cases c : m = n + 1
    · rw [c]; exact Nat.le_refl _
    · have h1 := ih (by omega)
      have e : fc (n + 1) = n * fc n + fc n := by show (n + 1) * fc n = _; rw [Nat.add_mul, Nat.one_mul]
      omega
theorem fc12 : fc 12 = 479001600 := by decide
/-! weighRest -/
def rr (sg : Sg) (x : Nat) : Int := (sg 63 x).toInt
def ws (sg : Sg) (x : Nat) : Int := (sg 64 x).toInt
def rval (sg : Sg) (x j : Nat) : Int := rr sg (x ||| 2 ^ j) + cs sg j x
/-- the least of those that may come next, and its ways -/
def OB (sg : Sg) (x : Nat) : Prop := rr sg x ≤ 1000000000 ∧ (∀ j, CH sg x j → rr sg x ≤ rval sg x j) ∧ (rr sg x = 1000000000 ∨ ∃ j, CH sg x j ∧ rr sg x = rval sg x j) ∧ ws sg x = SF (fun j => CH sg x j ∧ rval sg x j = rr sg x) (fun j => ws sg (x ||| 2 ^ j)) 12
def OBd (n : Nat) (sg : Sg) (y : Nat) : Prop := 0 ≤ rr sg y ∧ ((rr sg y = 1000000000 ∧ ws sg y = 0) ∨ rr sg y ≤ 12000000 * (zc y n : Int)) ∧ 0 ≤ ws sg y ∧ ws sg y ≤ (fc (zc y n) : Int)
/-- laid, above v -/
def OA (n : Nat) (sg : Sg) (v : Int) : Prop := ∀ y : Nat, v < (y : Int) → y < 2 ^ n → OBd n sg y ∧ (y = 2 ^ n - 1 → rr sg y = 0 ∧ ws sg y = 1) ∧ (y ≠ 2 ^ n - 1 → OB sg y)
def ATW (sg : Sg) (x O : Nat) (v : Int) (m : Nat) : Prop := v = 1000000000 ∨ ∃ j, j < m ∧ O.testBit j = true ∧ v = rval sg x j
theorem ATW_s {sg : Sg} {x O m : Nat} {v : Int} (h : ATW sg x O v m) : ATW sg x O v (m + 1) := by
  rcases h with z | ⟨j, z1, z2⟩
  · exact Or.inl z
  · exact Or.inr ⟨j, by omega, z2⟩
theorem CH_cg {sg r : Sg} {x j : Nat} (e3 : r 3 2 = sg 3 2) (e21 : r 21 = sg 21) (e22 : r 22 = sg 22) : CH r x j ↔ CH sg x j := by
  unfold CH
  rw [e3, e21, e22]
theorem ic_s6 {C r : Sg} (h : IC0 C) (e : ∀ k, k ≠ 63 → k ≠ 64 → r k = C k) : IC0 r := by
  refine ⟨fun k j => ?_, fun k j hk => by rw [e k (by omega) (by omega)]; exact h.2 k j hk⟩
  by_cases c : k = 63
  · subst c
    exact ⟨lo32 _, hi32 _⟩
  · by_cases d : k = 64
    · subst d
      exact ⟨lo32 _, hi32 _⟩
    · rw [e k c d]; exact h.1 k j
/-- what weighRest leaves -/
def WR (C : Sg) (x : Nat) (r : Sg) : Prop := (∀ k, k ≠ 63 → k ≠ 64 → r k = C k) ∧ OA (C 3 2).toInt.toNat r ((x : Int) - 1)
set_option maxHeartbeats 4000000 in
theorem o_weigh {C : Sg} {v1 v2 : Int32} (hI : IC0 C) (hH : HC C) (a0 : 0 ≤ v1.toInt) (a1 : v1.toInt.toNat < 2 ^ (C 3 2).toInt.toNat - 1) (hlen : ((2 ^ (C 3 2).toInt.toNat : Nat) : Int) ≤ (C 99 63).toInt ∧ ((2 ^ (C 3 2).toInt.toNat : Nat) : Int) ≤ (C 99 64).toInt) (hL : OA (C 3 2).toInt.toNat C v1.toInt) (l0 : 0 ≤ v2.toInt) (hl : ∀ j, v2.toInt.toNat.testBit j = true ↔ CH C v1.toInt.toNat j) : Ok (WR C v1.toInt.toNat) (fX9_weighRest v1 v2 C) := by
  have k0 : (0 : Int32).toInt = 0 := by decide
  have k1 : (1 : Int32).toInt = 1 := by decide
  have k12 : (12 : Int32).toInt = 12 := by decide
  have kN : (1000000000 : Int32).toInt = 1000000000 := by decide
  have hn := rdC3_2 hI
  obtain ⟨n, en⟩ : ∃ n, n = (C 3 2).toInt.toNat := ⟨_, rfl⟩
  obtain ⟨x, ex⟩ : ∃ x, x = v1.toInt.toNat := ⟨_, rfl⟩
  obtain ⟨O, eO⟩ : ∃ O, O = v2.toInt.toNat := ⟨_, rfl⟩
  unfold WR
  rw [← en, ← ex] at a1
  rw [← en] at hlen hL ⊢
  rw [← eO, ← ex] at hl
  rw [← ex]
  have hx : x < 2 ^ n := by omega
  have n12 : n ≤ 12 := by omega
  have x4 := lt4096 hx n12
  have w4 := rdC99_63 hI
  have w5 := rdC99_64 hI
  have inO : ∀ j, O.testBit j = true → j < n ∧ x.testBit j = false := fun j hj => by
    have := (hl j).mp hj
    exact ⟨by rw [en]; exact this.1, this.2.1⟩
  have zl := zc_le x n
  -- what one that may come gives
  have val : ∀ j, O.testBit j = true → x ||| 2 ^ j < 2 ^ n ∧ x < x ||| 2 ^ j ∧ OBd n C (x ||| 2 ^ j) ∧ zc (x ||| 2 ^ j) n + 1 ≤ zc x n ∧ (0 ≤ cs C j x ∧ cs C j x ≤ 12000000) ∧ ws C (x ||| 2 ^ j) ≤ (fc (zc x n - 1) : Int) := by
    intro j hj
    have hj' := inO j hj
    have g := or_gt hj'.2
    have o := or_lt hx hj'.1
    have b := (hL (x ||| 2 ^ j) (by omega) o).1
    have z := zc_lt hj'.1 hj'.2
    have c := cs_bd hI j x
    have f := fc_mono (show zc (x ||| 2 ^ j) n ≤ zc x n - 1 by omega)
    have b4 := b.2.2.2
    exact ⟨o, g, b, by omega, c, by omega⟩
  have sums : ∀ (v : Int) (m : Nat), m ≤ 12 → 0 ≤ SF (fun j => O.testBit j = true ∧ rval C x j = v) (fun j => ws C (x ||| 2 ^ j)) m ∧ SF (fun j => O.testBit j = true ∧ rval C x j = v) (fun j => ws C (x ||| 2 ^ j)) m ≤ (fc (zc x n) : Int) := by
    intro v m hm
    by_cases z : zc x n = 0
    · have e : SF (fun j => O.testBit j = true ∧ rval C x j = v) (fun j => ws C (x ||| 2 ^ j)) m = 0 := SF_0 m (fun j hj hp => by have := val j hp.1; omega)
      rw [e]; omega
    · have s := SF_bd (p := fun j => O.testBit j = true ∧ rval C x j = v) (w := fun j => ws C (x ||| 2 ^ j)) (b := fun j => O.testBit j && decide (j < n)) (F := fc (zc x n - 1)) m (fun j hj hp => by
        have vj := val j hp.1
        have := inO j hp.1
        exact ⟨by rw [Bool.and_eq_true]; exact ⟨hp.1, decide_eq_true this.1⟩, vj.2.2.1.2.2.1, vj.2.2.2.2.2⟩)
      have c1 : cn (fun j => O.testBit j && decide (j < n)) m ≤ zc x n := by
        have h12 : ∀ d m', m' + d = 12 → cn (fun j => O.testBit j && decide (j < n)) m' ≤ cn (fun j => O.testBit j && decide (j < n)) 12 := by
          intro d
          induction d with
          | zero => intro m' h; rw [show m' = 12 by omega]; exact Nat.le_refl _
          | succ d ih =>
            intro m' h
            have := ih (m' + 1) (by omega)
            have e : cn (fun j => O.testBit j && decide (j < n)) (m' + 1) = cn (fun j => O.testBit j && decide (j < n)) m' + (if (O.testBit m' && decide (m' < n)) = true then 1 else 0) := rfl
            omega
        have hn2 : ∀ d, n + d ≤ 12 → cn (fun j => O.testBit j && decide (j < n)) (n + d) = cn (fun j => O.testBit j && decide (j < n)) n := by
          intro d
          induction d with
          | zero => intro _; rfl
          | succ d ih =>
            intro h
            have e : cn (fun j => O.testBit j && decide (j < n)) (n + d + 1) = cn (fun j => O.testBit j && decide (j < n)) (n + d) + (if (O.testBit (n + d) && decide (n + d < n)) = true then 1 else 0) := rfl
            have e2 : (O.testBit (n + d) && decide (n + d < n)) = false := by rw [decide_eq_false (by omega), Bool.and_false]
            rw [e2] at e
            show cn _ (n + d + 1) = _
            rw [e, ih (by omega)]
            rfl
        have h1 := h12 (12 - m) m (by omega)
        have h2 := hn2 (12 - n) (by omega)
        rw [show n + (12 - n) = 12 by omega] at h2
        have h3 := cn_le (p := fun j => O.testBit j && decide (j < n)) (q := fun j => !x.testBit j) n (fun j hj hp => by
          rw [Bool.and_eq_true] at hp
          rw [(inO j hp.1).2]; rfl)
        unfold zc
        omega
      have c2 : cn (fun j => O.testBit j && decide (j < n)) m * fc (zc x n - 1) ≤ zc x n * fc (zc x n - 1) := Nat.mul_le_mul_right _ c1
      have c3 : zc x n * fc (zc x n - 1) = fc (zc x n) := by
        obtain ⟨k, hk⟩ : ∃ k, zc x n = k + 1 := ⟨zc x n - 1, by omega⟩
        rw [hk]
        rfl
      omega
  have fmax := fc_mono (show zc x n ≤ 12 by omega)
  rw [fc12] at fmax
  unfold fX9_weighRest LX9_weighRest_12
  refine ok_loop (I := fun (q : Int32 × Int32 × Int32 × Int32 × Int32 × Sg) => q.1 = v1 ∧ q.2.2.2.2.2 = C ∧ 0 ≤ q.2.2.2.1.toInt ∧ q.2.2.2.1.toInt ≤ 12 ∧ q.2.2.2.2.1.toInt = ((O / 2 ^ q.2.2.2.1.toInt.toNat : Nat) : Int) ∧ q.2.1.toInt ≤ 1000000000 ∧ (∀ j, j < q.2.2.2.1.toInt.toNat → O.testBit j = true → q.2.1.toInt ≤ rval C x j) ∧ ATW C x O q.2.1.toInt q.2.2.2.1.toInt.toNat ∧ q.2.2.1.toInt = SF (fun j => O.testBit j = true ∧ rval C x j = q.2.1.toInt) (fun j => ws C (x ||| 2 ^ j)) q.2.2.2.1.toInt.toNat) (m := fun (q : Int32 × Int32 × Int32 × Int32 × Int32 × Sg) => (13 - q.2.2.2.1.toInt).toNat) _ ?_ ?_ _ ?_
  · intro q hq
    have := hq.2.2.1
    show (13 - q.2.2.2.1.toInt).toNat < 10000
    omega
  · intro rec q hq hrec
    obtain ⟨p1, v3, v4, v5, v6, sg⟩ := q
    replace hq : p1 = v1 ∧ sg = C ∧ 0 ≤ v5.toInt ∧ v5.toInt ≤ 12 ∧ v6.toInt = ((O / 2 ^ v5.toInt.toNat : Nat) : Int) ∧ v3.toInt ≤ 1000000000 ∧ (∀ j, j < v5.toInt.toNat → O.testBit j = true → v3.toInt ≤ rval C x j) ∧ ATW C x O v3.toInt v5.toInt.toNat ∧ v4.toInt = SF (fun j => O.testBit j = true ∧ rval C x j = v3.toInt) (fun j => ws C (x ||| 2 ^ j)) v5.toInt.toNat := hq
    obtain ⟨e1, e3, q0, q1, q2, q3, q4, q5, q6⟩ := hq
    subst e1 e3
    show Ok _ (fX9_weighRest_12 rec p1 v3 v4 v5 v6 sg)
    unfold fX9_weighRest_12
    have hc := cl_i (i := p1) a0
    -- the end
    have fin : (∀ j, O.testBit j = true → j < v5.toInt.toNat) → Ok (fun r => (∀ k, k ≠ 63 → k ≠ 64 → r k = sg k) ∧ OA n r ((x : Int) - 1)) (fX9_weighRest_111 p1 v3 v4 sg) := by
      intro hall
      have ext : ∀ d, v5.toInt.toNat + d ≤ 12 → SF (fun j => O.testBit j = true ∧ rval sg x j = v3.toInt) (fun j => ws sg (x ||| 2 ^ j)) (v5.toInt.toNat + d) = SF (fun j => O.testBit j = true ∧ rval sg x j = v3.toInt) (fun j => ws sg (x ||| 2 ^ j)) v5.toInt.toNat := by
        intro d
        induction d with
        | zero => intro _; rfl
        | succ d ih =>
          intro h
          show SF _ _ (v5.toInt.toNat + d + 1) = _
          rw [SF_n (fun z => by have := hall _ z.1; omega)]
          exact ih (by omega)
      have e12 := ext (12 - v5.toInt.toNat) (by omega)
      rw [show v5.toInt.toNat + (12 - v5.toInt.toNat) = 12 by omega] at e12
      have sm := sums v3.toInt 12 (by decide)
      have att : ATW sg x O v3.toInt 12 := by
        rcases q5 with z | ⟨j, z1, z2⟩
        · exact Or.inl z
        · exact Or.inr ⟨j, by omega, z2⟩
      have lows : 0 ≤ v3.toInt ∧ ((v3.toInt = 1000000000 ∧ v4.toInt = 0) ∨ v3.toInt ≤ 12000000 * (zc x n : Int)) := by
        by_cases z : v3.toInt = 1000000000
        · refine ⟨by omega, Or.inl ⟨z, ?_⟩⟩
          rw [q6]
          refine SF_0 _ (fun j hj hp => ?_)
          have vj := val j hp.1
          have hp2 := hp.2
          have vb := vj.2.2.1.2.1
          unfold rval at hp2
          have zj := vj.2.2.2.1
          have cj := vj.2.2.2.2.1
          rcases vb with y | y
          · exact y.2
          · omega
        · rcases q5 with y | ⟨j, z1, z2, z3⟩
          · exact absurd y z
          · have vj := val j z2
            have vb := vj.2.2.1
            unfold OBd at vb
            unfold rval at z3
            have zj := vj.2.2.2.1
            have cj := vj.2.2.2.2.1
            have vb2 := vb.2.1
            have vb1 := vb.1
            refine ⟨by omega, Or.inr ?_⟩
            rcases vb2 with y | y
            · omega
            · omega
      unfold fX9_weighRest_111
      refine ok_ginL (by omega) (by omega) ?_
      refine ok_lt (fun s2 e2 => ?_)
      have e99 : s2 99 64 = sg 99 64 := by rw [e2, up2_n (by decide)]
      rw [e99]
      refine ok_ginL (by omega) (by omega) ?_
      refine ok_lt (fun s4 e4 => ?_)
      rw [show p1.toNatClampNeg = x by omega] at e2 e4
      have fr : ∀ k, k ≠ 63 → k ≠ 64 → s4 k = sg k := fun k a b => by rw [e4, up2_n b, e2, up2_n a]
      have rx : rr s4 x = v3.toInt := by unfold rr; rw [e4, up2_n (by decide), e2, up2_e]
      have wx : ws s4 x = v4.toInt := by unfold ws; rw [e4, up2_e]
      have ry : ∀ y, y ≠ x → rr s4 y = rr sg y := fun y hy => by unfold rr; rw [e4, up2_n (by decide), e2, up2_o (Or.inr hy)]
      have wy : ∀ y, y ≠ x → ws s4 y = ws sg y := fun y hy => by unfold ws; rw [e4, up2_o (Or.inr hy), e2, up2_n (by decide)]
      have ec := cs_cg (fr 23 (by decide) (by decide))
      have ech : ∀ y j, CH s4 y j ↔ CH sg y j := fun y j => CH_cg (by rw [fr 3 (by decide) (by decide)]) (fr 21 (by decide) (by decide)) (fr 22 (by decide) (by decide))
      refine ok_some ⟨fr, fun y hy hy2 => ?_⟩
      by_cases w : y = x
      · subst w
        have rv : ∀ j, O.testBit j = true → rval s4 y j = rval sg y j := fun j hj => by
          have vj := val j hj
          unfold rval
          rw [ry _ (by omega), ec]
        refine ⟨?_, fun z => by omega, fun _ => ?_⟩
        · unfold OBd
          rw [rx, wx, q6, ← e12]
          refine ⟨lows.1, ?_, sm.1, sm.2⟩
          rcases lows.2 with z | z
          · exact Or.inl ⟨z.1, by rw [e12, ← q6]; exact z.2⟩
          · exact Or.inr z
        · refine ⟨by rw [rx]; exact q3, fun j hj => ?_, ?_, ?_⟩
          · have bj := (hl j).mpr ((ech y j).mp hj)
            rw [rx, rv j bj]
            exact q4 j (hall j bj) bj
          · rw [rx]
            rcases att with z | ⟨j, z1, z2, z3⟩
            · exact Or.inl z
            · exact Or.inr ⟨j, (ech y j).mpr ((hl j).mp z2), by rw [rv j z2]; exact z3⟩
          · rw [wx, q6, ← e12, rx]
            refine SF_cg 12 (fun j hj => ?_) (fun j hj hp => ?_)
            · rw [ech y j, ← hl j]
              constructor
              · rintro ⟨z1, z2⟩
                exact ⟨z1, by rw [rv j z1]; exact z2⟩
              · rintro ⟨z1, z2⟩
                exact ⟨z1, by rw [← rv j z1]; exact z2⟩
            · have vj := val j hp.1
              rw [wy _ (by omega)]
      · have old := hL y (by omega) hy2
        have gt : ∀ j, CH sg y j → y ||| 2 ^ j ≠ x := fun j hb => by
          have := or_gt hb.2.1
          omega
        have rv : ∀ j, CH sg y j → rval s4 y j = rval sg y j := fun j hj => by
          unfold rval
          rw [ry _ (gt j hj), ec]
        unfold OBd
        rw [ry y w, wy y w]
        refine ⟨old.1, old.2.1, fun z => ?_⟩
        obtain ⟨o1, o2, o3, o4⟩ := old.2.2 z
        refine ⟨by rw [ry y w]; exact o1, fun j hj => ?_, ?_, ?_⟩
        · have hj' := (ech y j).mp hj
          rw [ry y w, rv j hj']
          exact o2 j hj'
        · rw [ry y w]
          rcases o3 with z | ⟨j, z1, z2⟩
          · exact Or.inl z
          · exact Or.inr ⟨j, (ech y j).mpr z1, by rw [rv j z1]; exact z2⟩
        · rw [wy y w, ry y w, o4]
          refine SF_cg 12 (fun j hj => ?_) (fun j hj hp => ?_)
          · rw [ech y j]
            constructor
            · rintro ⟨z1, z2⟩
              exact ⟨z1, by rw [rv j z1]; exact z2⟩
            · rintro ⟨z1, z2⟩
              exact ⟨z1, by rw [← rv j z1]; exact z2⟩
          · rw [wy _ (gt j hp.1)]
    -- on
    have go : ∀ w f : Int32, v5.toInt ≤ 11 → w.toInt ≤ 1000000000 → (∀ j, j < v5.toInt.toNat + 1 → O.testBit j = true → w.toInt ≤ rval sg x j) → ATW sg x O w.toInt (v5.toInt.toNat + 1) → f.toInt = SF (fun j => O.testBit j = true ∧ rval sg x j = w.toInt) (fun j => ws sg (x ||| 2 ^ j)) (v5.toInt.toNat + 1) → Ok (fun r => (∀ k, k ≠ 63 → k ≠ 64 → r k = sg k) ∧ OA n r ((x : Int) - 1)) (fX9_weighRest_99 rec p1 w f v5 v6 sg) := by
      intro w f g0 g1 g2 g3 g4
      unfold fX9_weighRest_99
      refine ok_lt (fun y1 f1 => ?_)
      replace f1 : y1.toInt = v5.toInt + 1 := by rw [f1]; exact add_c 1 k1 (by omega) (by omega)
      refine ok_lt (fun y2 f2 => ?_)
      have sn := sh_next q2 f2
      have ey : y1.toInt.toNat = v5.toInt.toNat + 1 := by omega
      refine hrec (p1, w, f, y1, y2, sg) ⟨rfl, rfl, by show 0 ≤ y1.toInt; omega, by show y1.toInt ≤ 12; omega, ?_, g1, ?_, ?_, ?_⟩ (show (13 - y1.toInt).toNat < (13 - v5.toInt).toNat by omega)
      · show y2.toInt = ((O / 2 ^ y1.toInt.toNat : Nat) : Int)
        rw [ey]; exact sn
      · show ∀ j, j < y1.toInt.toNat → _
        rw [ey]; exact g2
      · show ATW sg x O w.toInt y1.toInt.toNat
        rw [ey]; exact g3
      · show f.toInt = SF (fun j => O.testBit j = true ∧ rval sg x j = w.toInt) (fun j => ws sg (x ||| 2 ^ j)) y1.toInt.toNat
        rw [ey]; exact g4
    refine ok_ite (fun c => ?_) (fun c => ?_)
    · replace c := i_le.mp c
      exact fin (fun j hj => by have := (inO j hj).1; omega)
    · replace c := i_nle.mp c
      refine ok_ite (fun d => ?_) (fun d => ?_)
      · refine fin (fun j hj => ?_)
        refine Decidable.byContradiction fun z => ?_
        rw [sh_zero q2 d j (by omega)] at hj
        cases hj
      · refine ok_ite (fun f => ?_) (fun f => ?_)
        · have bj := (sh_bit q2).mp f
          have vj := val _ bj
          have jn := inO _ bj
          have vb := vj.2.2.1
          have tn := tset_n (set := p1) (h := v5) a0 (by omega) q0 (by omega)
          have ti := tset_i (set := p1) (h := v5) a0 (by omega) q0 (by omega)
          rw [← ex] at tn
          refine ok_lt (fun x4' e4 => ?_)
          rw [← e4] at tn ti
          have hc4 := cl_i ti.1
          refine ok_ginL (by omega) (by omega) ?_
          obtain ⟨y6, cost, ecs⟩ := hcost_is (a := p1) (v := v5) hI hH a0 (by rw [← ex, ← en]; exact hx) q0 (by omega)
          rw [← ex] at ecs
          refine bnd2_of cost ?_
          refine ok_lt (fun x9 e9 => ?_)
          have cj := vj.2.2.2.2.1
          have vb1 := vb.1
          have rle : rr sg (x ||| 2 ^ v5.toInt.toNat) ≤ 1000000000 := by
            rcases vb.2.1 with y | y
            · omega
            · have := zc_le (x ||| 2 ^ v5.toInt.toNat) n
              omega
          have hrr : (sg 63 x4'.toNatClampNeg).toInt = rr sg (x ||| 2 ^ v5.toInt.toNat) := by unfold rr; rw [← tn, show x4'.toNatClampNeg = x4'.toInt.toNat by omega]
          have hws : (sg 64 x4'.toNatClampNeg).toInt = ws sg (x ||| 2 ^ v5.toInt.toNat) := by unfold ws; rw [← tn, show x4'.toNatClampNeg = x4'.toInt.toNat by omega]
          have ev : x9.toInt = rval sg x v5.toInt.toNat := by
            rw [e9, add_i (by omega) (by omega), hrr, ecs]
            rfl
          refine ok_ite (fun g => ?_) (fun g => ?_)
          · replace g := i_le.mp g
            have low : ∀ j, j < v5.toInt.toNat + 1 → O.testBit j = true → v3.toInt ≤ rval sg x j := fun j hj hb => by
              by_cases w : j = v5.toInt.toNat
              · rw [w, ← ev]; exact g
              · exact q4 j (by omega) hb
            refine ok_ite (fun h => ?_) (fun h => ?_)
            · replace h := i_eq.mp h
              refine ok_ginL (by omega) (by omega) ?_
              refine ok_lt (fun x13 e13 => ?_)
              have sp := SF_p (p := fun j => O.testBit j = true ∧ rval sg x j = v3.toInt) (w := fun j => ws sg (x ||| 2 ^ j)) (n := v5.toInt.toNat) ⟨bj, by rw [← ev]; exact h⟩
              have sm := sums v3.toInt (v5.toInt.toNat + 1) (by omega)
              have sm0 := sums v3.toInt v5.toInt.toNat (by omega)
              have wnn := vb.2.2.1
              have wle := vb.2.2.2
              have e13' : x13.toInt = v4.toInt + ws sg (x ||| 2 ^ v5.toInt.toNat) := by
                rw [e13, add_i (by omega) (by omega), hws]
              refine go v3 x13 (by omega) q3 low (ATW_s q5) ?_
              rw [sp, e13', q6]
            · replace h := i_ne.mp h
              refine go v3 v4 (by omega) q3 low (ATW_s q5) ?_
              rw [SF_n (fun z => h (by rw [ev]; exact z.2))]
              exact q6
          · replace g := i_nle.mp g
            refine ok_ginL (by omega) (by omega) ?_
            refine ok_lt (fun x15 e15 => ?_)
            refine go x9 x15 (by omega) (by omega) (fun j hj hb => ?_) (Or.inr ⟨v5.toInt.toNat, by omega, bj, ev⟩) ?_
            · by_cases w : j = v5.toInt.toNat
              · rw [w, ev]; exact Int.le_refl _
              · have := q4 j (by omega) hb
                omega
            · rw [SF_p ⟨bj, ev.symm⟩, SF_0 v5.toInt.toNat (fun j hj hp => by have := q4 j hj hp.1; have := hp.2; omega), e15, hws]
              omega
        · have nb : ¬ O.testBit v5.toInt.toNat = true := fun z => f ((sh_bit q2).mpr z)
          refine go v3 v4 (by omega) q3 (fun j hj hb => ?_) (ATW_s q5) ?_
          · by_cases w : j = v5.toInt.toNat
            · rw [w] at hb; exact absurd hb nb
            · exact q4 j (by omega) hb
          · rw [SF_n (fun z => nb z.1)]
            exact q6
  · refine ⟨rfl, rfl, by show 0 ≤ (0 : Int32).toInt; omega, by show (0 : Int32).toInt ≤ 12; omega, ?_, by show (1000000000 : Int32).toInt ≤ 1000000000; omega, ?_, Or.inl kN, ?_⟩
    · show v2.toInt = ((O / 2 ^ (0 : Int32).toInt.toNat : Nat) : Int)
      rw [k0]
      show v2.toInt = ((O / 1 : Nat) : Int)
      rw [Nat.div_one]; omega
    · intro j hj
      have hj' : j < (0 : Int32).toInt.toNat := hj
      rw [k0] at hj'
      exact absurd hj' (Nat.not_lt_zero _)
    · show (0 : Int32).toInt = SF _ _ (0 : Int32).toInt.toNat
      rw [k0]
      rfl
/-! solve -/
/-- rest and ways are laid -/
def OV (sg : Sg) : Prop := OA (sg 3 2).toInt.toNat sg (-1)
theorem OA_cg {n : Nat} {sg r : Sg} {v : Int} (h : OA n sg v) (e63 : r 63 = sg 63) (e64 : r 64 = sg 64) (e23 : r 23 = sg 23) (e3 : r 3 2 = sg 3 2) (e21 : r 21 = sg 21) (e22 : r 22 = sg 22) : OA n r v := by
  have ec := cs_cg e23
  have er : ∀ y, rr r y = rr sg y := fun y => by unfold rr; rw [e63]
  have ew : ∀ y, ws r y = ws sg y := fun y => by unfold ws; rw [e64]
  have ev : ∀ y j, rval r y j = rval sg y j := fun y j => by unfold rval; rw [er, ec]
  have ech : ∀ y j, CH r y j ↔ CH sg y j := fun y j => CH_cg e3 e21 e22
  intro y hy hy2
  obtain ⟨h1, h2, h3⟩ := h y hy hy2
  unfold OBd
  rw [er, ew]
  refine ⟨h1, h2, fun z => ?_⟩
  obtain ⟨o1, o2, o3, o4⟩ := h3 z
  refine ⟨by rw [er]; exact o1, fun j hj => by rw [er, ev]; exact o2 j ((ech y j).mp hj), ?_, ?_⟩
  · rw [er]
    rcases o3 with z | ⟨j, z1, z2⟩
    · exact Or.inl z
    · exact Or.inr ⟨j, (ech y j).mpr z1, by rw [ev]; exact z2⟩
  · rw [ew, er, o4]
    exact SF_cg 12 (fun j _ => by rw [ech, ev]) (fun j _ _ => by rw [ew])
def OF (A r : Sg) : Prop := (∀ k, k ≠ 63 → k ≠ 64 → k ≠ 99 → r k = A k) ∧ (∀ j, j ≠ 63 → j ≠ 64 → r 99 j = A 99 j)
set_option maxHeartbeats 4000000 in
theorem o_86 {A : Sg} {x5 : Int32} (hI : IC0 A) (hH : HC A) (hx : x5.toInt = ((2 ^ (A 3 2).toInt.toNat : Nat) : Int) - 2) (hlen : ((2 ^ (A 3 2).toInt.toNat : Nat) : Int) ≤ (A 99 63).toInt ∧ ((2 ^ (A 3 2).toInt.toNat : Nat) : Int) ≤ (A 99 64).toInt) (hL : OA (A 3 2).toInt.toNat A x5.toInt) : Ok (fun r => (∀ k, k ≠ 63 → k ≠ 64 → r k = A k) ∧ OV r) (LX9_solve_86 (x5, A)) := by
  have hn := rdC3_2 hI
  have w4 := rdC99_63 hI
  have w5 := rdC99_64 hI
  have pp : 0 < 2 ^ (A 3 2).toInt.toNat := Nat.pow_pos (by decide)
  obtain ⟨n, en⟩ : ∃ n, n = (A 3 2).toInt.toNat := ⟨_, rfl⟩
  rw [← en] at hx hlen hL pp
  unfold LX9_solve_86
  refine ok_loop (I := fun (q : Int32 × Sg) => -1 ≤ q.1.toInt ∧ q.1.toInt ≤ x5.toInt ∧ (∀ k, k ≠ 63 → k ≠ 64 → q.2 k = A k) ∧ OA n q.2 q.1.toInt) (m := fun (q : Int32 × Sg) => (q.1.toInt + 1).toNat) _ ?_ ?_ _ ?_
  · intro q hq
    have h1 := hq.1
    have h2 := hq.2.1
    show (q.1.toInt + 1).toNat < 10000
    omega
  · intro rec q hq hrec
    obtain ⟨v2, sg⟩ := q
    replace hq : -1 ≤ v2.toInt ∧ v2.toInt ≤ x5.toInt ∧ (∀ k, k ≠ 63 → k ≠ 64 → sg k = A k) ∧ OA n sg v2.toInt := hq
    obtain ⟨q0, q1, q2, q3⟩ := hq
    show Ok _ (fX9_solve_86 rec v2 sg)
    unfold fX9_solve_86
    have k0 : (0 : Int32).toInt = 0 := by decide
    have i' : IC0 sg := ic_s6 hI q2
    have h' : HC sg := hc_cg hH (by rw [q2 3 (by decide) (by decide)]) (fun k a b c => q2 k (by omega) (by omega))
    have e3 : (sg 3 2) = A 3 2 := by rw [q2 3 (by decide) (by decide)]
    have e99 : sg 99 = A 99 := q2 99 (by decide) (by decide)
    refine ok_ite (fun c => ?_) (fun c => ?_)
    · replace c := i_lt.mp c
      refine ok_some ⟨q2, ?_⟩
      unfold OV
      rw [e3, ← en]
      intro y hy hy2
      exact q3 y (by omega) hy2
    · replace c := i_nlt.mp c
      obtain ⟨O, f1, f2, f3, f4⟩ := choices_is (a := v2) i' h' (by omega) (by rw [e3, ← en]; omega)
      refine bnd2_of f1 ?_
      refine ok_bnd1 (o_weigh (v1 := v2) (v2 := O) i' h' (by omega) (by rw [e3, ← en]; omega) (by rw [e3, ← en, e99]; exact hlen) (by rw [e3, ← en]; exact q3) f2 f4) (fun s5 h5 => ?_)
      obtain ⟨g1, g2⟩ := h5
      rw [e3, ← en] at g2
      refine ok_lt (fun x7 e7 => ?_)
      replace e7 : x7.toInt = v2.toInt + (-1) := by rw [e7]; exact add_c (-1) (by decide) (by omega) (by omega)
      refine hrec (x7, s5) ⟨by show -1 ≤ x7.toInt; omega, by show x7.toInt ≤ x5.toInt; omega, fun k a b => by show s5 k = A k; rw [g1 k a b]; exact q2 k a b, ?_⟩ (show (x7.toInt + 1).toNat < (v2.toInt + 1).toNat by omega)
      show OA n s5 x7.toInt
      intro y hy hy2
      exact g2 y (by omega) hy2
  · exact ⟨by show -1 ≤ x5.toInt; omega, by show x5.toInt ≤ x5.toInt; omega, fun _ _ _ => rfl, hL⟩
theorem o_68 {A sg : Sg} {v1 : Int32} (hI : IC0 sg) (hH : HC sg) (hF : OF A sg) (hv : v1.toInt = ((2 ^ (sg 3 2).toInt.toNat : Nat) : Int) - 1) (hlen : ((2 ^ (sg 3 2).toInt.toNat : Nat) : Int) ≤ (sg 99 63).toInt ∧ ((2 ^ (sg 3 2).toInt.toNat : Nat) : Int) ≤ (sg 99 64).toInt) : Ok (fun r => OF A r ∧ OV r) (fX9_solve_68 v1 sg) := by
  have k0 : (0 : Int32).toInt = 0 := by decide
  have k1 : (1 : Int32).toInt = 1 := by decide
  have pp : 0 < 2 ^ (sg 3 2).toInt.toNat := Nat.pow_pos (by decide)
  have w4 := rdC99_63 hI
  have w5 := rdC99_64 hI
  have hc := cl_i (i := v1) (by omega)
  unfold fX9_solve_68
  refine ok_ginL (by omega) (by omega) ?_
  refine ok_lt (fun s2 e2 => ?_)
  have e99 : s2 99 64 = sg 99 64 := by rw [e2, up2_n (by decide)]
  rw [e99]
  refine ok_ginL (by omega) (by omega) ?_
  refine ok_lt (fun s4 e4 => ?_)
  refine ok_lt (fun x5 e5 => ?_)
  replace e5 : x5.toInt = v1.toInt - 1 := by rw [e5]; exact sub_c 1 (by decide) (by omega) (by omega)
  have fr : ∀ k, k ≠ 63 → k ≠ 64 → s4 k = sg k := fun k a b => by rw [e4, up2_n b, e2, up2_n a]
  have e32 : s4 3 2 = sg 3 2 := by rw [fr 3 (by decide) (by decide)]
  refine ok_mono (o_86 (A := s4) (x5 := x5) (ic_s6 hI fr) (hc_cg hH e32 (fun k a b c => fr k (by omega) (by omega))) (by rw [e32]; omega) (by rw [e32, fr 99 (by decide) (by decide)]; exact hlen) ?_) (fun r h => ?_)
  · rw [e32]
    intro y hy hy2
    have ey : y = v1.toNatClampNeg := by omega
    have r0 : rr s4 y = 0 := by unfold rr; rw [e4, up2_n (by decide), e2, ey, up2_e]; exact k0
    have w1 : ws s4 y = 1 := by unfold ws; rw [e4, ey, up2_e]; exact k1
    have f1 := fc_pos (zc y (sg 3 2).toInt.toNat)
    unfold OBd
    rw [r0, w1]
    exact ⟨⟨by omega, Or.inr (by omega), by omega, by omega⟩, fun _ => ⟨rfl, rfl⟩, fun z => by omega⟩
  · obtain ⟨g1, g4⟩ := h
    exact ⟨⟨fun k a b c => by rw [g1 k a b, fr k a b]; exact hF.1 k a b c, fun j a b => by rw [g1 99 (by decide) (by decide), fr 99 (by decide) (by decide)]; exact hF.2 j a b⟩, g4⟩
/-- solve, behind prepare, when it is out of date -/
theorem o_solve {sg : Sg} (hI : IC0 sg) (hH : HC sg) (h99 : (sg 99 63).toInt = (sg 99 64).toInt) : Ok (fun r => OF sg r ∧ OV r) (bnd2 (fX8_all sg) (fun y6 sg7 => (if y6 < (Int32.ofNat (sg7 99 63).toNatClampNeg) then fX9_solve_68 y6 sg7 else lt (y6 + (1 : Int32)) (fun x10 => gnw x10 (lt (nw2 sg7 63 x10) (fun sg12 => lt (y6 + (1 : Int32)) (fun x14 => gnw x14 (lt (nw2 sg12 64 x14) (fun sg16 => fX9_solve_68 y6 sg16))))))))) := by
  have hn := rdC3_2 hI
  have w4 := rdC99_63 hI
  have w5 := rdC99_64 hI
  have pp : 0 < 2 ^ (sg 3 2).toInt.toNat := Nat.pow_pos (by decide)
  have q : 2 ^ (sg 3 2).toInt.toNat ≤ 2 ^ 12 := Nat.pow_le_pow_right (by decide) (by omega)
  have e12 : (2 : Nat) ^ 12 = 4096 := by decide
  obtain ⟨y, ey, y1, y2⟩ := all_is hI
  refine bnd2_of ey ?_
  refine ok_ite (fun c => ?_) (fun c => ?_)
  · replace c := i_lt.mp c
    rw [ofn_i (by omega)] at c
    exact o_68 hI hH ⟨fun _ _ _ _ => rfl, fun _ _ _ => rfl⟩ y1 (by omega)
  · refine ok_lt (fun x5 e5 => ?_)
    replace e5 : x5.toInt = y.toInt + 1 := by rw [e5]; exact add_c 1 (by decide) (by omega) (by omega)
    refine ok_gnw (by omega) (by omega) ?_
    refine ok_lt (fun s7 e7 => ?_)
    refine ok_lt (fun x6 e6 => ?_)
    replace e6 : x6.toInt = y.toInt + 1 := by rw [e6]; exact add_c 1 (by decide) (by omega) (by omega)
    refine ok_gnw (by omega) (by omega) ?_
    refine ok_lt (fun s8 e8 => ?_)
    have f7 : ∀ k, k ≠ 63 → k ≠ 99 → s7 k = sg k := fun k a b => by
      funext j
      rw [e7, nw2_is, if_neg a, if_neg (fun z => b z.1)]
    have f8 : ∀ k, k ≠ 64 → k ≠ 99 → s8 k = s7 k := fun k a b => by
      funext j
      rw [e8, nw2_is, if_neg a, if_neg (fun z => b z.1)]
    have f99 : ∀ j, j ≠ 63 → j ≠ 64 → s8 99 j = sg 99 j := fun j a b => by rw [e8, nw2_is, if_neg (by decide), if_neg (fun z => b z.2), e7, nw2_is, if_neg (by decide), if_neg (fun z => a z.2)]
    have g63 : s8 99 63 = x5 := by rw [e8, nw2_is, if_neg (by decide), if_neg (by decide), e7, nw2_is, if_neg (by decide), if_pos ⟨rfl, rfl⟩]
    have g64 : s8 99 64 = x6 := by rw [e8, nw2_is, if_neg (by decide), if_pos ⟨rfl, rfl⟩]
    have i8 : IC0 s8 := by
      have h1 := StC0.nw (M := [63, 64, 99]) (k := 63) (n := x5) (StC0.rf (M := [63, 64, 99]) hI) (by decide) (by decide) (by decide) (by omega) (by omega)
      rw [← e7] at h1
      have h2 := StC0.nw (k := 64) (n := x6) h1 (by decide) (by decide) (by decide) (by omega) (by omega)
      rw [← e8] at h2
      exact h2.1
    have e32 : s8 3 2 = sg 3 2 := by rw [f8 3 (by decide) (by decide), f7 3 (by decide) (by decide)]
    exact o_68 i8 (hc_cg hH e32 (fun k a b c => by rw [f8 k (by omega) (by omega), f7 k (by omega) (by omega)])) ⟨fun k a b c => by rw [f8 k b c, f7 k a c], f99⟩ (by rw [e32]; exact y1) (by rw [e32, g63, g64]; omega)
/-! what the class keeps for later is right where its stamp is -/
def JC (sg : Sg) : Prop := (sg 3 1 = sg 1 1 → MC sg) ∧ ((sg 10 1).toInt ≤ (sg 3 1).toInt ∧ (sg 10 1 = sg 3 1 → HC sg)) ∧ Z6 sg ∧ ((sg 4 4).toInt ≤ (sg 3 1).toInt ∧ (sg 4 4 = sg 3 1 → 0 ≤ (sg 4 4).toInt → LV sg)) ∧ (sg 4 2 = sg 3 1 → 0 ≤ (sg 4 2).toInt → OV sg) ∧ 0 ≤ (sg 1 1).toInt
/-- the cells that it rests on -/
def jk (k : Nat) : Prop := (17 ≤ k ∧ k ≤ 23) ∨ (25 ≤ k ∧ k ≤ 30) ∨ (63 ≤ k ∧ k ≤ 65)
def jf (k : Nat) : Prop := (11 ≤ k ∧ k ≤ 13) ∨ k = 15
def SJ (sg r : Sg) : Prop := r 1 = sg 1 ∧ r 3 = sg 3 ∧ r 10 = sg 10 ∧ (∀ j, j ≠ 3 → r 4 j = sg 4 j) ∧ ∀ k, jk k ∨ jf k → r k = sg k
theorem SJ.rf {sg : Sg} : SJ sg sg := ⟨rfl, rfl, rfl, fun _ _ => rfl, fun _ _ => rfl⟩
theorem SJ.tr {a b c : Sg} (h : SJ a b) (g : SJ b c) : SJ a c := ⟨g.1.trans h.1, g.2.1.trans h.2.1, g.2.2.1.trans h.2.2.1, fun j hj => (g.2.2.2.1 j hj).trans (h.2.2.2.1 j hj), fun k hk => (g.2.2.2.2 k hk).trans (h.2.2.2.2 k hk)⟩
theorem MC_cg {sg r : Sg} (h : MC sg) (e10 : r 1 0 = sg 1 0) (e32 : r 3 2 = sg 3 2) (e11 : r 11 = sg 11) (e12 : r 12 = sg 12) (e13 : r 13 = sg 13) (e15 : r 15 = sg 15) (e : ∀ k, 17 ≤ k → k ≤ 23 → r k = sg k) : MC r := by
  have cc : ∀ x, cnb r x = cnb sg x := fun x => by unfold cnb; rw [e10, e11, e13]
  have er : ∀ n, rk r n = rk sg n := rk_cg cc
  have e17 := e 17 (by decide) (by decide)
  have e18 := e 18 (by decide) (by decide)
  have e19 := e 19 (by decide) (by decide)
  have e20 := e 20 (by decide) (by decide)
  have e21 := e 21 (by decide) (by decide)
  have e22 := e 22 (by decide) (by decide)
  have e23 := e 23 (by decide) (by decide)
  have ew : ∀ x, wsl r x = wsl sg x := fun x => by unfold wsl; rw [e11, e12, e18]
  obtain ⟨h1, h2, h3, h4, h5, h6, h7⟩ := h
  refine ⟨by rw [e32, er]; exact h1, fun x hx hc => ?_, fun x hx hc => ?_, fun a t ha ht => ?_, fun a ha => ?_, fun a t ha ht => ?_, fun a t ha ht => ?_⟩
  · rw [cc] at hc; rw [er, e17, e18, e19, e11]; exact h2 x hx hc
  · rw [cc] at hc; rw [e18]; exact h3 x hx hc
  · rw [er] at ha ht; rw [e23, e15, e17]; exact h4 a t ha ht
  · rw [er] at ha; rw [e20, e17, ew]; exact h5 a ha
  · rw [er] at ha ⊢; rw [e21, e19, e20]; exact h6 a t ha ht
  · rw [er] at ha ⊢; rw [e22, e19, e20]; exact h7 a t ha ht
theorem LV_cg {sg r : Sg} (h : LV sg) (e32 : r 3 2 = sg 3 2) (e45 : r 4 5 = sg 4 5) (e65 : r 65 = sg 65) (e23 : r 23 = sg 23) : LV r := by
  refine ⟨by rw [e45, e65]; exact h.1, ?_⟩
  rw [e32]
  exact LA_cg h.2 e65 e23
theorem OV_cg {sg r : Sg} (h : OV sg) (e32 : r 3 2 = sg 3 2) (e63 : r 63 = sg 63) (e64 : r 64 = sg 64) (e : ∀ k, 21 ≤ k → k ≤ 23 → r k = sg k) : OV r := by
  unfold OV
  rw [e32]
  exact OA_cg h e63 e64 (e 23 (by decide) (by decide)) e32 (e 21 (by decide) (by decide)) (e 22 (by decide) (by decide))
theorem JC_cg {sg r : Sg} (h : JC sg) (s : SJ sg r) : JC r := by
  obtain ⟨s1, s3, s10, s4, sk⟩ := s
  obtain ⟨h1, h2, h3, h4, h5, h6⟩ := h
  have e : ∀ k, jk k → r k = sg k := fun k hk => sk k (Or.inl hk)
  have e32 : r 3 2 = sg 3 2 := by rw [s3]
  unfold JC
  rw [s3, s1, s10, s4 4 (by decide), s4 2 (by decide)]
  refine ⟨fun z => MC_cg (h1 z) (by rw [s1]) e32 (sk 11 (Or.inr (Or.inl (by omega)))) (sk 12 (Or.inr (Or.inl (by omega)))) (sk 13 (Or.inr (Or.inl (by omega)))) (sk 15 (Or.inr (Or.inr rfl))) (fun k a b => e k (Or.inl ⟨a, b⟩)), ⟨h2.1, fun z => hc_cg (h2.2 z) e32 (fun k a b c => e k (by unfold jk; omega))⟩, z6_cg h3 (fun k a b => e k (by unfold jk; omega)), ⟨h4.1, fun z z2 => LV_cg (h4.2 z z2) e32 (s4 5 (by decide)) (e 65 (by unfold jk; omega)) (e 23 (by unfold jk; omega))⟩, fun z z2 => OV_cg (h5 z z2) e32 (e 63 (by unfold jk; omega)) (e 64 (by unfold jk; omega)) (fun k a b => e k (by unfold jk; omega)), h6⟩
/-- a change of the flock -/
theorem JC_flock {sg r : Sg} (hI : IC sg) (h : JC sg) (st : (r 1 1).toInt = (sg 1 1).toInt + 1) (same : ∀ k, k ≠ 1 → k ≠ 2 → ¬ (11 ≤ k ∧ k ≤ 15) → ¬ (47 ≤ k ∧ k ≤ 62) → r k = sg k) : JC r := by
  obtain ⟨h1, h2, h3, h4, h5, h6⟩ := h
  have s3 := same 3 (by decide) (by decide) (by decide) (by decide)
  have s4 := same 4 (by decide) (by decide) (by decide) (by decide)
  have s10 := same 10 (by decide) (by decide) (by decide) (by decide)
  have e32 : r 3 2 = sg 3 2 := by rw [s3]
  have le := hI.2.2.1
  have e : ∀ k, jk k → r k = sg k := fun k hk => same k (by unfold jk at hk; omega) (by unfold jk at hk; omega) (by unfold jk at hk; omega) (by unfold jk at hk; omega)
  unfold JC
  rw [s3, s4, s10]
  refine ⟨fun z => ?_, ⟨h2.1, fun z => hc_cg (h2.2 z) e32 (fun k a b c => e k (by unfold jk; omega))⟩, z6_cg h3 (fun k a b => e k (by unfold jk; omega)), ⟨h4.1, fun z z2 => LV_cg (h4.2 z z2) e32 (by rw [s4]) (e 65 (by unfold jk; omega)) (e 23 (by unfold jk; omega))⟩, fun z z2 => OV_cg (h5 z z2) e32 (e 63 (by unfold jk; omega)) (e 64 (by unfold jk; omega)) (fun k a b => e k (by unfold jk; omega)), by omega⟩
  have := congrArg Int32.toInt z
  omega
/-- gather -/
def JG (sg r : Sg) : Prop := IC r ∧ JC r ∧ MC r ∧ r 3 1 = r 1 1 ∧ ∀ k, ¬ (k = 3 ∨ (17 ≤ k ∧ k ≤ 23)) → r k = sg k
theorem j_gather {sg : Sg} (hI : IC sg) (hJ : JC sg) : Ok (JG sg) (fX8_gather sg) := by
  by_cases c : sg 3 1 = sg 1 1
  · unfold fX8_gather
    rw [if_pos c]
    exact ok_some ⟨hI, hJ, hJ.1 c, c, fun _ _ => rfl⟩
  · refine ok_mono (ok_and (sX8_gather hI) (g_gather hI.1 c)) (fun r h => ?_)
    obtain ⟨⟨⟨ir, -⟩, -⟩, f, e31, mc⟩ := h
    obtain ⟨h1, h2, h3, h4, h5, h6⟩ := hJ
    have le := hI.2.2.1
    have lo := hI.2.1
    have c' := i_ne.mp c
    have e1 : r 1 = sg 1 := f 1 (by omega)
    have e4 : r 4 = sg 4 := f 4 (by omega)
    have e10 : r 10 = sg 10 := f 10 (by omega)
    refine ⟨ir, ⟨fun _ => mc, ⟨?_, fun z => ?_⟩, z6_cg h3 (fun k a b => f k (by omega)), ⟨?_, fun z => ?_⟩, fun z => ?_, by rw [e1]; exact h6⟩, mc, by rw [e31, e1], f⟩
    · rw [e31, e10]; omega
    · rw [e31, e10] at z
      have := congrArg Int32.toInt z
      omega
    · rw [e31, e4]; omega
    · rw [e31, e4] at z
      have := congrArg Int32.toInt z
      omega
    · rw [e31, e4] at z
      have := congrArg Int32.toInt z
      omega
/-- prepare -/
def JP (sg r : Sg) : Prop := IC r ∧ JC r ∧ MC r ∧ HC r ∧ r 3 1 = r 1 1 ∧ ∀ k, ¬ (k = 3 ∨ k = 10 ∨ (17 ≤ k ∧ k ≤ 23) ∨ (25 ≤ k ∧ k ≤ 30)) → r k = sg k
theorem ic_s10 {C r : Sg} (h : IC0 C) (e : ∀ k, k ≠ 10 → r k = C k) : IC0 r := by
  refine ⟨fun k j => ?_, fun k j hk => by rw [e k (by omega)]; exact h.2 k j hk⟩
  by_cases c : k = 10
  · subst c
    exact ⟨lo32 _, hi32 _⟩
  · rw [e k c]; exact h.1 k j
theorem j_prepare {sg : Sg} (hI : IC sg) (hJ : JC sg) : Ok (JP sg) (fX4_prepare sg) := by
  have key : Ok (fun r => JC r ∧ MC r ∧ HC r ∧ r 3 1 = r 1 1 ∧ ∀ k, ¬ (k = 3 ∨ k = 10 ∨ (17 ≤ k ∧ k ≤ 23) ∨ (25 ≤ k ∧ k ≤ 30)) → r k = sg k) (fX4_prepare sg) := by
    unfold fX4_prepare
    refine ok_bnd1 (j_gather hI hJ) (fun s1 h1 => ?_)
    obtain ⟨i1, j1, m1, st, f1⟩ := h1
    refine ok_ite (fun c => ?_) (fun c => ?_)
    · exact ok_some ⟨j1, m1, j1.2.1.2 c, st, fun k hk => f1 k (by omega)⟩
    · refine ok_lt (fun x4 e4 => ?_)
      refine ok_lt (fun s5 e5 => ?_)
      obtain ⟨h1, h2, h3, h4, h5, h6⟩ := j1
      have f5 : ∀ k, k ≠ 10 → s5 k = s1 k := fun k hk => by rw [e5, up2_n hk]
      refine ok_mono (h_35 (A := s5) (ic_s10 i1.1 f5) (z6_cg h3 (fun k a b => f5 k (by omega)))) (fun r hr => ?_)
      obtain ⟨ir, hp⟩ := hr
      have hc := hc_of hp
      have fr : ∀ k, k ≠ 10 → ¬ (25 ≤ k ∧ k ≤ 30) → r k = s1 k := fun k a b => by rw [hp.1 k b, f5 k a]
      have e1 : r 1 = s1 1 := fr 1 (by decide) (by decide)
      have e3 : r 3 = s1 3 := fr 3 (by decide) (by decide)
      have e4' : r 4 = s1 4 := fr 4 (by decide) (by decide)
      have e10 : r 10 1 = s1 3 1 := by rw [hp.1 10 (by decide), e5, up2_e]; exact e4
      have mr : MC r := MC_cg m1 (by rw [e1]) (by rw [e3]) (fr 11 (by decide) (by decide)) (fr 12 (by decide) (by decide)) (fr 13 (by decide) (by decide)) (fr 15 (by decide) (by decide)) (fun k a b => fr k (by omega) (by omega))
      refine ⟨⟨fun _ => mr, ⟨?_, fun _ => hc⟩, hc.2.2.2.2.2.2.2, ⟨?_, fun z z2 => ?_⟩, fun z z2 => ?_, by rw [e1]; exact h6⟩, mr, hc, by rw [e3, e1]; exact st, fun k hk => ?_⟩
      · rw [e10, e3]; omega
      · rw [e4', e3]; exact h4.1
      · rw [e4', e3] at z
        rw [e4'] at z2
        exact LV_cg (h4.2 z z2) (by rw [e3]) (by rw [e4']) (fr 65 (by decide) (by decide)) (fr 23 (by decide) (by decide))
      · rw [e4', e3] at z
        rw [e4'] at z2
        exact OV_cg (h5 z z2) (by rw [e3]) (fr 63 (by decide) (by decide)) (fr 64 (by decide) (by decide)) (fun k a b => fr k (by omega) (by omega))
      · rw [fr k (by omega) (by omega)]; exact f1 k (by omega)
  refine ok_mono (ok_and (sX4_prepare hI) key) (fun r h => ?_)
  obtain ⟨⟨⟨ir, -⟩, -⟩, h1, h2, h3, h4, h5⟩ := h
  exact ⟨ir, h1, h2, h3, h4, h5⟩
theorem ic_s4 {C r : Sg} (h : IC0 C) (e : ∀ k, k ≠ 4 → r k = C k) : IC0 r := by
  refine ⟨fun k j => ?_, fun k j hk => by rw [e k (by omega)]; exact h.2 k j hk⟩
  by_cases c : k = 4
  · subst c
    exact ⟨lo32 _, hi32 _⟩
  · rw [e k c]; exact h.1 k j
/-- solve -/
def JS (sg r : Sg) : Prop := IC r ∧ JC r ∧ MC r ∧ HC r ∧ OV r ∧ r 3 1 = r 1 1 ∧ ∀ k, ¬ (k = 3 ∨ k = 4 ∨ k = 10 ∨ (17 ≤ k ∧ k ≤ 23) ∨ (25 ≤ k ∧ k ≤ 30) ∨ k = 63 ∨ k = 64 ∨ k = 99) → r k = sg k
theorem j_solve {sg : Sg} (hI : IC sg) (hJ : JC sg) : Ok (JS sg) (fX9_solve sg) := by
  have key : Ok (fun r => JC r ∧ MC r ∧ HC r ∧ OV r ∧ r 3 1 = r 1 1 ∧ ∀ k, ¬ (k = 3 ∨ k = 4 ∨ k = 10 ∨ (17 ≤ k ∧ k ≤ 23) ∨ (25 ≤ k ∧ k ≤ 30) ∨ k = 63 ∨ k = 64 ∨ k = 99) → r k = sg k) (fX9_solve sg) := by
    unfold fX9_solve
    refine ok_bnd1 (j_prepare hI hJ) (fun s1 h1 => ?_)
    obtain ⟨i1, j1, m1, c1, st, f1⟩ := h1
    have j1' := j1
    obtain ⟨h1, h2, h3, h4, h5, h6⟩ := j1
    refine ok_ite (fun c => ?_) (fun c => ?_)
    · exact ok_some ⟨j1', m1, c1, h5 c (by rw [c, st]; exact h6), st, fun k hk => f1 k (by omega)⟩
    · refine ok_lt (fun x4 e4 => ?_)
      refine ok_lt (fun s5 e5 => ?_)
      have f5 : ∀ k, k ≠ 4 → s5 k = s1 k := fun k hk => by rw [e5, up2_n hk]
      refine ok_mono (o_solve (sg := s5) (ic_s4 i1.1 f5) (hc_cg c1 (by rw [f5 3 (by decide)]) (fun k a b c => f5 k (by omega))) (by rw [f5 99 (by decide)]; exact i1.2.2.2.2.2)) (fun r hr => ?_)
      obtain ⟨⟨g1, g2⟩, ov⟩ := hr
      have fr : ∀ k, k ≠ 4 → k ≠ 63 → k ≠ 64 → k ≠ 99 → r k = s1 k := fun k a b c d => by rw [g1 k b c d, f5 k a]
      have e1 : r 1 = s1 1 := fr 1 (by decide) (by decide) (by decide) (by decide)
      have e3 : r 3 = s1 3 := fr 3 (by decide) (by decide) (by decide) (by decide)
      have e10 : r 10 = s1 10 := fr 10 (by decide) (by decide) (by decide) (by decide)
      have e42 : r 4 2 = s1 3 1 := by rw [g1 4 (by decide) (by decide) (by decide), e5, up2_e]; exact e4
      have e4j : ∀ j, j ≠ 2 → r 4 j = s1 4 j := fun j hj => by rw [g1 4 (by decide) (by decide) (by decide), e5, up2_o (Or.inr hj)]
      have mr : MC r := MC_cg m1 (by rw [e1]) (by rw [e3]) (fr 11 (by decide) (by decide) (by decide) (by decide)) (fr 12 (by decide) (by decide) (by decide) (by decide)) (fr 13 (by decide) (by decide) (by decide) (by decide)) (fr 15 (by decide) (by decide) (by decide) (by decide)) (fun k a b => fr k (by omega) (by omega) (by omega) (by omega))
      have hr : HC r := hc_cg c1 (by rw [e3]) (fun k a b c => fr k (by omega) (by omega) (by omega) (by omega))
      refine ⟨⟨fun _ => mr, ⟨by rw [e10, e3]; exact h2.1, fun _ => hr⟩, z6_cg h3 (fun k a b => fr k (by omega) (by omega) (by omega) (by omega)), ⟨by rw [e4j 4 (by decide), e3]; exact h4.1, fun z z2 => ?_⟩, fun _ _ => ov, by rw [e1]; exact h6⟩, mr, hr, ov, by rw [e3, e1]; exact st, fun k hk => ?_⟩
      · rw [e4j 4 (by decide), e3] at z
        rw [e4j 4 (by decide)] at z2
        exact LV_cg (h4.2 z z2) (by rw [e3]) (e4j 5 (by decide)) (fr 65 (by decide) (by decide) (by decide) (by decide)) (fr 23 (by decide) (by decide) (by decide) (by decide))
      · rw [fr k (by omega) (by omega) (by omega) (by omega)]; exact f1 k (by omega)
  refine ok_mono (ok_and (sX9_solve hI) key) (fun r h => ?_)
  obtain ⟨⟨⟨ir, -⟩, -⟩, h1, h2, h3, h4, h5, h6⟩ := h
  exact ⟨ir, h1, h2, h3, h4, h5, h6⟩
/-- looseWeight -/
def JL (sg : Sg) (q : Int64 × Sg) : Prop := IC q.2 ∧ JC q.2 ∧ MC q.2 ∧ LV q.2 ∧ q.1 = (q.2 4 5).toInt64 ∧ ∀ k, ¬ (k = 3 ∨ k = 4 ∨ k = 10 ∨ (17 ≤ k ∧ k ≤ 23) ∨ (25 ≤ k ∧ k ≤ 30) ∨ k = 65 ∨ k = 99) → q.2 k = sg k
theorem j_loose {sg : Sg} (hI : IC sg) (hJ : JC sg) : Ok (JL sg) (fX9_looseWeight sg) := by
  have key : Ok (fun q => JC q.2 ∧ MC q.2 ∧ LV q.2 ∧ q.1 = (q.2 4 5).toInt64 ∧ ∀ k, ¬ (k = 3 ∨ k = 4 ∨ k = 10 ∨ (17 ≤ k ∧ k ≤ 23) ∨ (25 ≤ k ∧ k ≤ 30) ∨ k = 65 ∨ k = 99) → q.2 k = sg k) (fX9_looseWeight sg) := by
    unfold fX9_looseWeight
    refine ok_bnd1 (j_prepare hI hJ) (fun s1 h1 => ?_)
    obtain ⟨i1, j1, m1, c1, st, f1⟩ := h1
    have j1' := j1
    obtain ⟨h1, h2, h3, h4, h5, h6⟩ := j1
    refine ok_ite (fun c => ?_) (fun c => ?_)
    · exact ok_some ⟨j1', m1, h4.2 c (by rw [c, st]; exact h6), rfl, fun k hk => f1 k (by omega)⟩
    · refine ok_lt (fun x4 e4 => ?_)
      refine ok_lt (fun s5 e5 => ?_)
      have f5 : ∀ k, k ≠ 4 → s5 k = s1 k := fun k hk => by rw [e5, up2_n hk]
      refine ok_bnd1 (l_loosen (sg := s5) (ic_s4 i1.1 f5) (hc_cg c1 (by rw [f5 3 (by decide)]) (fun k a b c => f5 k (by omega)))) (fun r hr => ?_)
      obtain ⟨⟨g1, g2, g3⟩, lv⟩ := hr
      have fr : ∀ k, k ≠ 4 → k ≠ 65 → k ≠ 99 → r k = s1 k := fun k a b c => by rw [g1 k b a c, f5 k a]
      have e1 : r 1 = s1 1 := fr 1 (by decide) (by decide) (by decide)
      have e3 : r 3 = s1 3 := fr 3 (by decide) (by decide) (by decide)
      have e10 : r 10 = s1 10 := fr 10 (by decide) (by decide) (by decide)
      have e44 : r 4 4 = s1 3 1 := by rw [g2 4 (by decide), e5, up2_e]; exact e4
      have e4j : ∀ j, j ≠ 4 → j ≠ 5 → r 4 j = s1 4 j := fun j a b => by rw [g2 j b, e5, up2_o (Or.inr a)]
      have mr : MC r := MC_cg m1 (by rw [e1]) (by rw [e3]) (fr 11 (by decide) (by decide) (by decide)) (fr 12 (by decide) (by decide) (by decide)) (fr 13 (by decide) (by decide) (by decide)) (fr 15 (by decide) (by decide) (by decide)) (fun k a b => fr k (by omega) (by omega) (by omega))
      have hr : HC r := hc_cg c1 (by rw [e3]) (fun k a b c => fr k (by omega) (by omega) (by omega))
      refine ok_some ⟨⟨fun _ => mr, ⟨?_, fun _ => hr⟩, ?_, ⟨?_, fun _ _ => lv⟩, fun z z2 => ?_, ?_⟩, mr, lv, rfl, fun k hk => ?_⟩
      · show (r 10 1).toInt ≤ (r 3 1).toInt
        rw [e10, e3]; exact h2.1
      · exact z6_cg h3 (fun k a b => fr k (by omega) (by omega) (by omega))
      · show (r 4 4).toInt ≤ (r 3 1).toInt
        rw [e44, e3]; omega
      · replace z : r 4 2 = r 3 1 := z
        replace z2 : 0 ≤ (r 4 2).toInt := z2
        rw [e4j 2 (by decide) (by decide), e3] at z
        rw [e4j 2 (by decide) (by decide)] at z2
        show OV r
        exact OV_cg (h5 z z2) (by rw [e3]) (fr 63 (by decide) (by decide) (by decide)) (fr 64 (by decide) (by decide) (by decide)) (fun k a b => fr k (by omega) (by omega) (by omega))
      · show 0 ≤ (r 1 1).toInt
        rw [e1]; exact h6
      · show r k = sg k
        rw [fr k (by omega) (by omega) (by omega)]; exact f1 k (by omega)
  refine ok_mono (ok_and (sX9_looseWeight hI) key) (fun r h => ?_)
  obtain ⟨⟨ir, -⟩, h1, h2, h3, h4, h5⟩ := h
  exact ⟨ir, h1, h2, h3, h4, h5⟩
/-! the reference's tables, by sets as numbers -/
theorem ofn_x {X : Nat} (h : X ≤ 4095) : (Int32.ofNat X).toInt = (X : Int) := Int32.toInt_ofNat_of_lt (by omega)
def Lv (lg : Lg) (X u : Nat) : Int := (lg 4 (13 * X + u)).toInt
def Wv (lg : Lg) (X u : Nat) : Int := (lg 5 (13 * X + u)).toInt
def MCn (sg : Sg) (h X u : Nat) : Prop := ¬ mc sg (Int32.ofNat h) (Int32.ofNat X) (Int32.ofNat u) = 0
def nx (sg : Sg) (lg : Lg) (h X : Nat) : Int := if Lv lg (X ||| 2 ^ h) h < 1000000000000000 then cm (sg 1) h X + Lv lg (X ||| 2 ^ h) h else 1000000000000000
def vn (A X u : Nat) : Prop := (∀ j, X.testBit j = true → A.testBit j = true) ∧ ((u = 12 ∧ X = 0) ∨ (u < 12 ∧ X.testBit u = true))
/-- one state of the reference -/
def RN (sg : Sg) (lg : Lg) (A X u : Nat) : Prop := 0 ≤ Wv lg X u ∧ (0 ≤ Lv lg X u ∧ (Lv lg X u = 1000000000000000 ∨ Lv lg X u ≤ 144000000)) ∧ (X = A → Lv lg X u = 0 ∧ Wv lg X u = 1) ∧ (¬ X = A → (∀ h, h < 12 → MCn sg h X u → Lv lg X u ≤ nx sg lg h X) ∧ (Lv lg X u = 1000000000000000 ∨ ∃ h, h < 12 ∧ MCn sg h X u ∧ Lv lg X u = nx sg lg h X) ∧ Wv lg X u = SF (fun h => MCn sg h X u ∧ nx sg lg h X < 1000000000000000 ∧ nx sg lg h X = Lv lg X u) (fun h => Wv lg (X ||| 2 ^ h) h) 12)
theorem ofn_or {X h : Nat} (hX : X ≤ 4095) (hh : h < 12) : (Int32.ofNat X ||| ((1 : Int32) <<< (Int32.ofNat h &&& 31))) = Int32.ofNat (X ||| 2 ^ h) ∧ X ||| 2 ^ h ≤ 4095 := by
  have o := ofn_n hh
  have ox := ofn_x hX
  have n := tset_n (set := Int32.ofNat X) (h := Int32.ofNat h) (by omega) (by omega) (by omega) (by omega)
  have i := tset_i (set := Int32.ofNat X) (h := Int32.ofNat h) (by omega) (by omega) (by omega) (by omega)
  rw [ox, o, Int.toNat_natCast, Int.toNat_natCast] at n
  have le : X ||| 2 ^ h ≤ 4095 := by omega
  refine ⟨Int32.toInt_inj.mp ?_, le⟩
  rw [ofn_x le]
  omega
theorem ax_n {X u : Nat} (hX : X ≤ 4095) (hu : u ≤ 12) : (ax (Int32.ofNat X) (Int32.ofNat u)).toNatClampNeg = 13 * X + u := by
  have ox := ofn_x hX
  have ou := ofn_x (X := u) (by omega)
  have := ax_i (set := Int32.ofNat X) (last := Int32.ofNat u) (by omega) (by omega) (by omega) (by omega)
  omega
theorem lv_n {lg : Lg} {X u : Nat} (hX : X ≤ 4095) (hu : u ≤ 12) : lv lg (Int32.ofNat X) (Int32.ofNat u) = Lv lg X u := by unfold lv Lv; rw [ax_n hX hu]
theorem wv_n {lg : Lg} {X u : Nat} (hX : X ≤ 4095) (hu : u ≤ 12) : wv lg (Int32.ofNat X) (Int32.ofNat u) = Wv lg X u := by unfold wv Wv; rw [ax_n hX hu]
theorem smv_n {sg : Sg} {lg : Lg} {X h : Nat} (sv : SV (sg 1)) (hX : X ≤ 4095) (hh : h < 12) (l0 : 0 ≤ Lv lg (X ||| 2 ^ h) h) : (smv sg lg (Int32.ofNat X) (Int32.ofNat h)).toInt = nx sg lg h X := by
  have o := ofn_n hh
  have ox := ofn_x hX
  have oo := ofn_or hX hh
  have e : lv lg (Int32.ofNat X ||| ((1 : Int32) <<< (Int32.ofNat h &&& 31))) (Int32.ofNat h) = Lv lg (X ||| 2 ^ h) h := by rw [oo.1, lv_n oo.2 (by omega)]
  rw [smv_is sv (by omega) (by omega) (by omega) (by rw [e]; exact l0), e, o, ox, Int.toNat_natCast, Int.toNat_natCast]
  rfl
theorem bit_x {X u : Nat} (hX : X ≤ 4095) (hu : u < 31) : (((Int32.ofNat X) >>> (Int32.ofNat u &&& 31)) &&& (1 : Int32)) = (1 : Int32) ↔ X.testBit u = true := by
  have ox := ofn_x hX
  have ou := ofn_x (X := u) (by omega)
  have b := bit_n (a := Int32.ofNat X) (v := Int32.ofNat u) (by omega) (by omega) (by omega)
  rw [ox, ou, Int.toNat_natCast, Int.toNat_natCast] at b
  exact b
theorem vld_n {A : Int32} {X u : Nat} (A0 : 0 ≤ A.toInt) (A1 : A.toInt ≤ 4095) (h : vn A.toInt.toNat X u) : X ≤ 4095 ∧ u ≤ 12 ∧ vld A (Int32.ofNat X) (Int32.ofNat u) := by
  obtain ⟨hs, hu⟩ := h
  have e12 : (2 : Nat) ^ 12 = 4096 := by decide
  have hX : X ≤ 4095 := by
    have : X < 2 ^ 12 := lt_of_tb (fun j hj => tb_lt (n := 12) (by omega) (hs j hj))
    omega
  have u12 : u ≤ 12 := by omega
  have ox := ofn_x hX
  have ou := ofn_x (X := u) (by omega)
  refine ⟨hX, u12, by omega, by omega, ?_, ?_⟩
  · have n := and_n (a := Int32.ofNat X) (b := A) (by omega) A0
    rw [ox, Int.toNat_natCast] at n
    have e : X &&& A.toInt.toNat = X := by
      refine Nat.eq_of_testBit_eq fun j => ?_
      rw [Nat.testBit_and]
      cases hj : X.testBit j
      · rfl
      · rw [hs j hj]; rfl
    rw [e] at n
    refine Int32.toInt_inj.mp ?_
    rw [ox]
    omega
  · rcases hu with z | z
    · left; omega
    · right
      exact ⟨by omega, by omega, (bit_x hX (by omega)).mpr z.2⟩
theorem PS_SF {sg : Sg} {lg : Lg} {set last : Int32} {L : Int64} {p : Nat → Prop} {w : Nat → Int} (h : ∀ j, j < 12 → (p j ↔ (¬ mc sg (Int32.ofNat j) set last = 0 ∧ (smv sg lg set (Int32.ofNat j)).toInt < 1000000000000000 ∧ smv sg lg set (Int32.ofNat j) = L))) (hw : ∀ j, j < 12 → p j → ww lg set (Int32.ofNat j) = w j) : ∀ n, n ≤ 12 → PS sg lg set last L n = SF p w n
  | 0, _ => rfl
  | n + 1, hn => by
    have ih := PS_SF h hw n (by omega)
    unfold PS
    have hh := h n (by omega)
    by_cases c : p n
    · rw [SF_p c, if_pos (hh.mp c), ih, hw n (by omega) c]
    · rw [SF_n c, if_neg (fun z => c (hh.mpr z)), ih, Int.add_zero]
theorem kz_12 (set : Int32) : (kz set : Int) ≤ 12 := by have := kz_le set; omega
theorem rn_of {sg : Sg} {lg : Lg} {A : Int32} (sv : SV (sg 1)) (hA : A = ctg (sg 1) (sg 1 0).toInt.toNat) (hD : ∀ t u, vld A t u → DPx sg lg A t u) : ∀ X u, vn A.toInt.toNat X u → RN sg lg A.toInt.toNat X u := by
  intro X u hv
  have s0 := sv.1
  have s12 := sv.2.1
  have cr := ctg_r (sg 1) (sg 1 0).toInt.toNat (by omega)
  rw [← hA] at cr
  obtain ⟨hX, hu, hv'⟩ := vld_n cr.1 cr.2 hv
  obtain ⟨d1, d2, d3, d4, d5, d6⟩ := hD _ _ hv'
  rw [wv_n hX hu] at d1 d5
  rw [lv_n hX hu] at d3 d4 d5
  have k12 := kz_12 (Int32.ofNat X)
  have ox := ofn_x hX
  refine ⟨d1, ⟨d3, by omega⟩, fun z => d5 (Int32.toInt_inj.mp (by rw [ox]; omega)), fun z => ?_⟩
  obtain ⟨b1, b2, b3⟩ := d6 (fun y => z (by rw [← y, ox]; omega))
  have nxt : ∀ h, h < 12 → MCn sg h X u → (smv sg lg (Int32.ofNat X) (Int32.ofNat h)).toInt = nx sg lg h X ∧ ww lg (Int32.ofNat X) (Int32.ofNat h) = Wv lg (X ||| 2 ^ h) h := by
    intro h hh m
    have v := (vld_next sv hA hv'.1 hv'.2.1 hv'.2.2.1 hh m).1
    have oo := ofn_or hX hh
    rw [oo.1] at v
    have dd := hD _ _ v
    have d3' := dd.2.2.1
    rw [lv_n oo.2 (by omega)] at d3'
    refine ⟨smv_n sv hX hh d3', ?_⟩
    have ew : ww lg (Int32.ofNat X) (Int32.ofNat h) = wv lg (Int32.ofNat X ||| ((1 : Int32) <<< (Int32.ofNat h &&& 31))) (Int32.ofNat h) := rfl
    rw [ew, oo.1, wv_n oo.2 (by omega)]
  have ea : (lg 4 (ax (Int32.ofNat X) (Int32.ofNat u)).toNatClampNeg).toInt = Lv lg X u := by rw [ax_n hX hu]; rfl
  refine ⟨fun h hh m => ?_, ?_, ?_⟩
  · have := b1 h hh m
    rw [ea, (nxt h hh m).1] at this
    exact this
  · rcases b2 with y | ⟨h, y1, y2, y3⟩
    · rw [ea] at y; exact Or.inl y
    · right
      refine ⟨h, y1, y2, ?_⟩
      rw [← ea, y3]
      exact (nxt h y1 y2).1
  · rw [wv_n hX hu] at b3
    rw [b3]
    refine PS_SF (fun h hh => ?_) (fun h hh hp => ?_) 12 (by decide)
    · constructor
      · rintro ⟨m, y2, y3⟩
        have n1 := (nxt h hh m).1
        refine ⟨m, by rw [n1]; exact y2, Int64.toInt_inj.mp ?_⟩
        rw [n1, ea]; exact y3
      · rintro ⟨m, y2, y3⟩
        have n1 := (nxt h hh m).1
        refine ⟨m, by rw [← n1]; exact y2, ?_⟩
        rw [← n1, y3, ea]
    · exact (nxt h hh hp.1).2
/-! sets of slots and sets of hens -/
theorem cb_cnb {sx : Sg} {S : Nat → Int32} {h : Nat} (hF : FEq sx S) (hh : h < 12) : cb S (Int32.ofNat h) = cnb sx h := by
  have o := ofn_n hh
  have hc := cl_i (i := Int32.ofNat h) (by omega)
  have en : (Int32.ofNat h).toNatClampNeg = h := by omega
  have key : cb S (Int32.ofNat h) = true ↔ cnb sx h = true := by
    unfold cb cnb
    rw [decide_eq_true_eq, decide_eq_true_eq, en, hF.1, o]
    constructor
    · rintro ⟨h1, h2, h3⟩
      have row := hF.2 h h2
      rw [row.1, row.2.2.1] at h3
      exact ⟨h2, fun z => Decidable.byContradiction fun y => h3 ⟨z, y⟩⟩
    · rintro ⟨h1, h2⟩
      have row := hF.2 h h1
      rw [row.1, row.2.2.1]
      exact ⟨by omega, h1, fun z => z.2 (h2 z.1)⟩
  cases h1 : cb S (Int32.ofNat h)
  · cases h2 : cnb sx h
    · rfl
    · rw [key.mpr h2] at h1; cases h1
  · rw [key.mp h1]
def hs (sx : Sg) (x : Nat) : Nat → Nat
  | 0 => 0
  | m + 1 => if cnb sx m && x.testBit (rk sx m) then hs sx x m ||| 2 ^ m else hs sx x m
theorem hs_tb (sx : Sg) (x h : Nat) : ∀ m, (hs sx x m).testBit h = (decide (h < m) && (cnb sx h && x.testBit (rk sx h)))
  | 0 => by
    show Nat.testBit 0 h = _
    rw [Nat.zero_testBit, decide_eq_false (by omega)]
    rfl
  | m + 1 => by
    have ih := hs_tb sx x h m
    unfold hs
    by_cases c : (cnb sx m && x.testBit (rk sx m)) = true
    · rw [if_pos c, tb_or, ih]
      by_cases w : m = h
      · subst w
        rw [decide_eq_true rfl, decide_eq_true (show m < m + 1 by omega), Bool.or_true, c]
        rfl
      · rw [decide_eq_false w, Bool.or_false]
        congr 1
        exact decide_eq_decide.mpr (by omega)
    · rw [if_neg c, ih]
      by_cases w : m = h
      · subst w
        have c' : (cnb sx m && x.testBit (rk sx m)) = false := by
          cases hq : (cnb sx m && x.testBit (rk sx m))
          · rfl
          · exact absurd hq c
        rw [c', Bool.and_false, Bool.and_false]
      · congr 1
        exact decide_eq_decide.mpr (by omega)
/-- the hens of a set of slots -/
def HS (sx : Sg) (x : Nat) : Nat := hs sx x 12
theorem HS_tb {sx : Sg} {x h : Nat} : (HS sx x).testBit h = true ↔ (h < 12 ∧ cnb sx h = true ∧ x.testBit (rk sx h) = true) := by
  unfold HS
  rw [hs_tb, Bool.and_eq_true, Bool.and_eq_true, decide_eq_true_eq]
theorem HS_or {sx : Sg} {x h : Nat} (hh : h < 12) (hc : cnb sx h = true) : HS sx (x ||| 2 ^ rk sx h) = HS sx x ||| 2 ^ h := by
  refine Nat.eq_of_testBit_eq fun j => ?_
  rw [tb_or]
  unfold HS
  rw [hs_tb, hs_tb, tb_or]
  by_cases w : h = j
  · subst w
    rw [decide_eq_true rfl, decide_eq_true rfl, decide_eq_true hh, hc, Bool.or_true, Bool.or_true]
    rfl
  · rw [decide_eq_false w, Bool.or_false]
    cases hcj : cnb sx j
    · simp
    · rw [decide_eq_false (fun z => w (rk_inj hc hcj z)), Bool.or_false]
theorem ctg_tb {S : Nat → Int32} (j : Nat) : ∀ m, m ≤ 12 → ((ctg S m).toInt.toNat.testBit j = true ↔ (j < m ∧ cb S (Int32.ofNat j) = true))
  | 0, _ => by
    have e : (ctg S 0).toInt.toNat = 0 := (show (0 : Int32).toInt.toNat = 0 by decide)
    rw [e, Nat.zero_testBit]
    exact ⟨fun z => absurd z (by decide), fun z => absurd z.1 (Nat.not_lt_zero _)⟩
  | m + 1, hm => by
    have ih := ctg_tb (S := S) j m (by omega)
    have r := ctg_r S m (by omega)
    have o := ofn_n (j := m) (by omega)
    unfold ctg
    by_cases c : cb S (Int32.ofNat m) = true
    · rw [if_pos c, tset_n r.1 r.2 (by omega) (by omega), o, Int.toNat_natCast, tb_or, Bool.or_eq_true, ih, decide_eq_true_eq]
      constructor
      · rintro (z | z)
        · exact ⟨by omega, z.2⟩
        · subst z; exact ⟨by omega, c⟩
      · rintro ⟨z1, z2⟩
        by_cases w : m = j
        · exact Or.inr w
        · exact Or.inl ⟨by omega, z2⟩
    · rw [if_neg c, Int32.or_zero, ih]
      constructor
      · rintro ⟨z1, z2⟩
        exact ⟨by omega, z2⟩
      · rintro ⟨z1, z2⟩
        by_cases w : m = j
        · subst w; exact absurd z2 c
        · exact ⟨by omega, z2⟩
theorem HS_all {sx : Sg} {S : Nat → Int32} (hF : FEq sx S) (h12 : (sx 1 0).toInt ≤ 12) : HS sx (2 ^ rk sx 12 - 1) = (ctg S (S 0).toInt.toNat).toInt.toNat := by
  refine Nat.eq_of_testBit_eq fun j => ?_
  have a := HS_tb (sx := sx) (x := 2 ^ rk sx 12 - 1) (h := j)
  have b := ctg_tb (S := S) j (S 0).toInt.toNat (by rw [hF.1]; omega)
  rw [tb_all, decide_eq_true_eq] at a
  have c : (HS sx (2 ^ rk sx 12 - 1)).testBit j = true ↔ (ctg S (S 0).toInt.toNat).toInt.toNat.testBit j = true := by
    rw [a, b]
    constructor
    · rintro ⟨h1, h2, h3⟩
      refine ⟨?_, by rw [cb_cnb hF h1]; exact h2⟩
      have := (of_decide_eq_true h2).1
      rw [hF.1]; omega
    · rintro ⟨h1, h2⟩
      rw [hF.1] at h1
      have j12 : j < 12 := by omega
      rw [cb_cnb hF j12] at h2
      exact ⟨j12, h2, rk_lt h2 j12⟩
  cases h1 : (HS sx (2 ^ rk sx 12 - 1)).testBit j
  · cases h2 : (ctg S (S 0).toInt.toNat).toInt.toNat.testBit j
    · rfl
    · rw [c.mpr h2] at h1; cases h1
  · rw [c.mp h1]
/-- a set of slots is its hens' -/
theorem HS_inj {sx : Sg} {x y : Nat} (hx : x < 2 ^ rk sx 12) (hy : y < 2 ^ rk sx 12) (e : HS sx x = HS sx y) : x = y := by
  refine Nat.eq_of_testBit_eq fun s => ?_
  by_cases c : s < rk sx 12
  · obtain ⟨h, h1, h2, h3⟩ := rk_onto 12 s c
    have a := hs_tb sx x h 12
    have b := hs_tb sx y h 12
    have e' : hs sx x 12 = hs sx y 12 := e
    rw [e', b, decide_eq_true h1, h2, h3] at a
    simpa using a.symm
  · rw [tb_hi hx (by omega), tb_hi hy (by omega)]
theorem S6_rk {sx : Sg} {F G : Nat → Int} {x : Nat} (h : ∀ j, j < 12 → cnb sx j = true → F j = G (rk sx j)) : ∀ m, m ≤ 12 → S6 F (HS sx x) m = S6 G x (rk sx m)
  | 0, _ => rfl
  | m + 1, hm => by
    have ih := S6_rk (x := x) h m (by omega)
    unfold S6
    rw [ih]
    unfold HS
    rw [hs_tb, decide_eq_true (show m < 12 by omega), Bool.true_and]
    cases hc : cnb sx m
    · rw [rk_n hc, Bool.false_and, if_neg (by decide), Int.add_zero]
      cases rk sx m <;> rfl
    · rw [rk_s hc, Bool.true_and, h m (by omega) hc]
theorem S6_ext {G : Nat → Int} {x n : Nat} (hx : x < 2 ^ n) : ∀ d, S6 G x (n + d) = S6 G x n
  | 0 => rfl
  | d + 1 => by
    show S6 G x (n + d) + (if x.testBit (n + d) then G (n + d) else 0) = _
    rw [S6_ext hx d, tb_hi hx (show n ≤ n + d by omega), if_neg (by decide), Int.add_zero]
/-- the pecks of a hen and of its slot -/
theorem cm_cs {sx : Sg} {S : Nat → Int32} {h x : Nat} (hF : FEq sx S) (hM : MC sx) (hh : h < 12) (hc : cnb sx h = true) (hx : x < 2 ^ rk sx 12) : cm S h (HS sx x) = cs sx (rk sx h) x := by
  have le := rk_le sx 12
  have lt : (h : Int) < (sx 1 0).toInt := (of_decide_eq_true hc).1
  have row := hF.2 h lt
  obtain ⟨m1, m2, m3, m4, -⟩ := hM
  unfold cm cs
  rw [S6_rk (sx := sx) (G := fun j => pk sx (rk sx h) j) (fun j hj hcj => ?_) 12 (by decide)]
  · have := S6_ext (G := fun j => pk sx (rk sx h) j) hx (12 - rk sx 12)
    rw [show rk sx 12 + (12 - rk sx 12) = 12 by omega] at this
    exact this.symm
  · have oh := ofn_n hh
    have oj := ofn_n hj
    have ch := cl_i (i := Int32.ofNat h) (by omega)
    have cj := cl_i (i := Int32.ofNat j) (by omega)
    unfold pk
    rw [m4 (rk sx h) (rk sx j) (rk_lt hc hh) (rk_lt hcj hj), (m2 h hh hc).1, (m2 j hj hcj).1, show (Int32.ofNat h).toNatClampNeg = h by omega, show (Int32.ofNat j).toNatClampNeg = j by omega, row.2.2.2.2 j hj]
theorem SF_rk {sx : Sg} {p q : Nat → Prop} {w v : Nat → Int} (h1 : ∀ j, j < 12 → cnb sx j = true → (p j ↔ q (rk sx j))) (h2 : ∀ j, j < 12 → cnb sx j = false → ¬ p j) (h3 : ∀ j, j < 12 → cnb sx j = true → p j → w j = v (rk sx j)) : ∀ m, m ≤ 12 → SF p w m = SF q v (rk sx m)
  | 0, _ => rfl
  | m + 1, hm => by
    have ih := SF_rk h1 h2 h3 m (by omega)
    cases hc : cnb sx m
    · rw [rk_n hc, SF_n (h2 m (by omega) hc), ih]
    · have e := h1 m (by omega) hc
      rw [rk_s hc]
      by_cases c : p m
      · rw [SF_p c, SF_p (e.mp c), ih, h3 m (by omega) hc c]
      · rw [SF_n c, SF_n (fun z => c (e.mpr z)), ih]
theorem SF_ext {q : Nat → Prop} {v : Nat → Int} {n : Nat} (h : ∀ j, n ≤ j → ¬ q j) : ∀ d, SF q v (n + d) = SF q v n
  | 0 => rfl
  | d + 1 => by
    show SF q v (n + d + 1) = _
    rw [SF_n (h _ (by omega)), SF_ext h d]
/-! loose: class and reference -/
theorem mcn_loose {sx sm : Sg} {h X u : Nat} (hF : FEq sx (sm 1)) (h7 : sm 0 7 = 0) (h9 : sm 0 9 = -1) (hX : X ≤ 4095) (hh : h < 12) : MCn sm h X u ↔ (X.testBit h = false ∧ cnb sx h = true) := by
  have o := ofn_n hh
  have b := bit_x (X := X) (u := h) hX (by omega)
  have ne : ¬ (Int32.ofNat h = sm 0 9 ∧ ((Int32.ofNat X >>> ((sm 0 8) &&& 31)) &&& (1 : Int32)) = 0) := fun z => by
    have := congrArg Int32.toInt z.1
    rw [h9, o] at this
    have km : (-1 : Int32).toInt = -1 := by decide
    omega
  unfold MCn mc
  rw [cb_cnb hF hh]
  cases hb : X.testBit h
  · rw [if_neg (fun z => by rw [b.mp z] at hb; cases hb)]
    cases hc : cnb sx h
    · rw [if_neg (by decide)]
      exact ⟨fun z => absurd rfl z, fun z => absurd z.2 (by decide)⟩
    · rw [if_pos rfl, if_neg ne, if_pos h7]
      exact ⟨fun _ => ⟨rfl, rfl⟩, fun _ => by decide⟩
  · rw [if_pos (b.mpr hb)]
    exact ⟨fun z => absurd rfl z, fun z => absurd z.1 (by decide)⟩
theorem HS_sub {sx : Sg} {S : Nat → Int32} {x : Nat} (hF : FEq sx S) (h12 : (sx 1 0).toInt ≤ 12) : ∀ j, (HS sx x).testBit j = true → (ctg S (S 0).toInt.toNat).toInt.toNat.testBit j = true := by
  intro j hj
  have h := HS_tb.mp hj
  have lt := (of_decide_eq_true h.2.1).1
  exact (ctg_tb j _ (by rw [hF.1]; omega)).mpr ⟨by rw [hF.1]; omega, by rw [cb_cnb hF h.1]; exact h.2.1⟩
theorem HS_le (sx : Sg) (x : Nat) : HS sx x ≤ 4095 := by
  have : HS sx x < 2 ^ 12 := lt_of_tb (fun j hj => (HS_tb.mp hj).1)
  have e : (2 : Nat) ^ 12 = 4096 := by decide
  omega
set_option maxHeartbeats 4000000 in
theorem loose_eq {sx sm : Sg} {lm : Lg} {A : Nat} (hI : IC0 sx) (hF : FEq sx (sm 1)) (hM : MC sx) (hL : LV sx) (h7 : sm 0 7 = 0) (h9 : sm 0 9 = -1) (hA : A = (ctg (sm 1) (sm 1 0).toInt.toNat).toInt.toNat) (hR : ∀ X u, vn A X u → RN sm lm A X u) : ∀ d x u, x < 2 ^ rk sx 12 → 2 ^ rk sx 12 ≤ x + d → vn A (HS sx x) u → Lv lm (HS sx x) u = lr sx x := by
  have t2 := rdC1_0 hI
  have n12 := rk_le sx 12
  have en : (sx 3 2).toInt.toNat = rk sx 12 := by rw [hM.1]; rfl
  have hL2 := hL.2
  rw [en] at hL2
  have hall := HS_all hF t2.2
  rw [← hA] at hall
  intro d
  induction d with
  | zero => intro x u hx hd; omega
  | succ d ih =>
    intro x u hx hd hv
    obtain ⟨l1, l2, l3⟩ := hL2 x (by omega) hx
    obtain ⟨r1, r2, r3, r4⟩ := hR _ u hv
    by_cases c : x = 2 ^ rk sx 12 - 1
    · rw [l2 c]
      exact (r3 (by rw [c]; exact hall)).1
    · have ne : ¬ HS sx x = A := fun z => c (HS_inj hx (by omega) (by rw [z, hall]))
      obtain ⟨b1, b2, -⟩ := r4 ne
      obtain ⟨q1, j, q2, q3, q4⟩ := l3 c
      -- a hen that is left, and what it gives
      have nxt : ∀ h, h < 12 → cnb sx h = true → x.testBit (rk sx h) = false → nx sm lm h (HS sx x) = lval sx x (rk sx h) ∧ MCn sm h (HS sx x) u := by
        intro h hh hc hb
        have rl := rk_lt hc hh
        have ol := or_lt hx rl
        have og := or_gt hb
        have oe := HS_or (x := x) hh hc
        have bitf : (HS sx x).testBit h = false := by
          cases hz : (HS sx x).testBit h
          · rfl
          · have := (HS_tb.mp hz).2.2
            rw [hb] at this; cases this
        have vnx : vn A (HS sx (x ||| 2 ^ rk sx h)) h := ⟨fun k hk => by rw [hA, show (sm 1 0) = (sm 1) 0 from rfl]; exact HS_sub hF t2.2 k hk, Or.inr ⟨hh, by rw [oe, tb_or, decide_eq_true rfl, Bool.or_true]⟩⟩
        have e := ih (x ||| 2 ^ rk sx h) h ol (by omega) vnx
        have lb := (hL2 (x ||| 2 ^ rk sx h) (by omega) ol).1
        have zl := zc_le (x ||| 2 ^ rk sx h) (rk sx 12)
        rw [oe] at e
        refine ⟨?_, (mcn_loose hF h7 h9 (HS_le sx x) hh).mpr ⟨bitf, hc⟩⟩
        unfold nx lval
        rw [e, if_pos (by omega), cm_cs hF hM hh hc hx]
        omega
      have zl := zc_le x (rk sx 12)
      -- the reference's is not above the class's
      obtain ⟨h0, z1, z2, z3⟩ := rk_onto 12 j q2
      have up := nxt h0 z1 z2 (by rw [z3]; exact q3)
      have up2 := b1 h0 z1 up.2
      rw [up.1, z3, ← q4] at up2
      rcases b2 with y | ⟨h, y1, y2, y3⟩
      · omega
      · have m := (mcn_loose hF h7 h9 (HS_le sx x) y1).mp y2
        have hb : x.testBit (rk sx h) = false := by
          cases hz : x.testBit (rk sx h)
          · rfl
          · have := (HS_tb (sx := sx) (x := x) (h := h)).mpr ⟨y1, m.2, hz⟩
            rw [m.1] at this; cases this
        have dn := nxt h y1 m.2 hb
        have lo := q1 (rk sx h) (rk_lt m.2 y1) hb
        rw [← dn.1, ← y3] at lo
        omega
theorem HS_0 (sx : Sg) : HS sx 0 = 0 := by
  refine Nat.eq_of_testBit_eq fun j => ?_
  unfold HS
  rw [hs_tb, Nat.zero_testBit, Nat.zero_testBit, Bool.and_false, Bool.and_false]
def flq (k : Nat) : Prop := k = 1 ∨ k = 2 ∨ (11 ≤ k ∧ k ≤ 15) ∨ (47 ≤ k ∧ k ≤ 62)
theorem FEq_cg {sx r : Sg} {S : Nat → Int32} (h : FEq sx S) (e : ∀ k, flq k → r k = sx k) : FEq r S := by
  have e1 := e 1 (by unfold flq; omega)
  refine ⟨by rw [e1]; exact h.1, fun x hx => ?_⟩
  rw [e1] at hx
  unfold RowC
  rw [e 11 (by unfold flq; omega), e 12 (by unfold flq; omega), e 13 (by unfold flq; omega), e 14 (by unfold flq; omega), e 15 (by unfold flq; omega)]
  exact h.2 x hx
/-- the answers of loose are alike -/
theorem val_loose {K : Sg → Sg → Lg → Prop} {n : Nat} {sx sm sx' sm' : Sg} {lm lm' : Lg} {r r' : Int64} (h : Rel K n sx sm lm) (hJ : JC sx) (e1 : fX11_loose sx = some (r, sx')) (e2 : fX12_loose sm lm = some (r', sm', lm')) : r = r' := by
  obtain ⟨hI, hM, hF, -⟩ := h
  have sv := hM.2.2
  have kc : (12 : Int32).toNatClampNeg = 12 := by decide
  -- the class
  have c : Ok (fun q => FEq q.2 (sm 1) ∧ IC0 q.2 ∧ MC q.2 ∧ LV q.2 ∧ q.1 = (q.2 4 5).toInt64) (fX11_loose sx) := by
    unfold fX11_loose
    refine ok_bnd2 (j_loose hI hJ) (fun y s hs => ?_)
    obtain ⟨i1, -, m1, l1, v1, f1⟩ := hs
    exact ok_some ⟨FEq_cg hF.1 (fun k hk => f1 k (by unfold flq at hk; omega)), i1.1, m1, l1, v1⟩
  -- the reference
  have m : Ok (fun (q : Int64 × Sg × Lg) => ∃ A : Nat, A = (ctg (q.2.1 1) (q.2.1 1 0).toInt.toNat).toInt.toNat ∧ q.2.1 1 = sm 1 ∧ q.2.1 0 7 = 0 ∧ q.2.1 0 9 = -1 ∧ (∀ X u, vn A X u → RN q.2.1 q.2.2 A X u) ∧ q.1.toInt = Lv q.2.2 0 12) (fX12_loose sm lm) := by
    unfold fX12_loose
    refine ok_bnd2 (x_fill sv (by decide) (by decide)) (fun s l hs => ?_)
    obtain ⟨A, hA, f1, ⟨f7, f8, f9, -⟩, hD⟩ := hs
    replace f1 : s 1 = sm 1 := f1
    replace f7 : s 0 7 = 0 := f7
    replace f9 : s 0 9 = -1 := f9
    replace hD : ∀ t u, vld A t u → DPx s l A t u := hD
    refine bnd3_of (show fX12_begun s l = some ((12 : Int32), s, l) from rfl) ?_
    refine ok_gin (by decide) (by decide) ?_
    have sv' : SV (s 1) := by rw [f1]; exact sv
    have hA' : A = ctg (s 1) (s 1 0).toInt.toNat := by rw [f1]; exact hA
    refine ok_some ⟨A.toInt.toNat, by rw [hA'], f1, f7, f9, rn_of sv' hA' hD, ?_⟩
    show (l 4 (12 : Int32).toNatClampNeg).toInt = (l 4 (13 * 0 + 12)).toInt
    rw [kc]
  obtain ⟨a, ea, c1, c2, c3, c4, c5⟩ := c
  rw [e1] at ea
  cases ea
  obtain ⟨b, eb, A, m1, m2, m3, m4, m5, m6⟩ := m
  rw [e2] at eb
  cases eb
  replace c1 : FEq sx' (sm 1) := c1
  replace c2 : IC0 sx' := c2
  replace c3 : MC sx' := c3
  replace c4 : LV sx' := c4
  replace c5 : r = (sx' 4 5).toInt64 := c5
  replace m1 : A = (ctg (sm' 1) (sm' 1 0).toInt.toNat).toInt.toNat := m1
  replace m2 : sm' 1 = sm 1 := m2
  replace m3 : sm' 0 7 = 0 := m3
  replace m4 : sm' 0 9 = -1 := m4
  replace m5 : ∀ X u, vn A X u → RN sm' lm' A X u := m5
  replace m6 : r'.toInt = Lv lm' 0 12 := m6
  rw [← m2] at c1
  have le := loose_eq c2 c1 c3 c4 m3 m4 m1 m5 (2 ^ rk sx' 12) 0 12 (Nat.pow_pos (by decide)) (by omega) ⟨fun j hj => absurd hj (by rw [HS_0, Nat.zero_testBit]; decide), Or.inl ⟨rfl, HS_0 sx'⟩⟩
  rw [HS_0] at le
  refine Int64.toInt_inj.mp ?_
  rw [m6, le, c5, Int32.toInt_toInt64, c4.1]
  rfl
