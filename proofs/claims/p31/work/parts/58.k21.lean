/-! sure: by slots -/
def PSi (sg : Sg) (i j x : Nat) : Prop := ∀ P : Nat → Prop, (∀ x, BQ sg x i → P x) → (∀ x t, BQ sg x t → t ≠ j → P (x ||| 2 ^ t) → P x) → P x
theorem PSi.now {sg : Sg} {i j : Nat} (x : Nat) (h : BQ sg x i) : PSi sg i j x := fun _ n _ => n x h
theorem PSi.later {sg : Sg} {i j : Nat} (x t : Nat) (h1 : BQ sg x t) (h2 : t ≠ j) (h3 : PSi sg i j (x ||| 2 ^ t)) : PSi sg i j x := fun P n k => k x t h1 h2 (h3 P n k)
theorem PSi.ind {sg : Sg} {i j : Nat} {motive : (x : Nat) → PSi sg i j x → Prop} (now : ∀ (x : Nat) (h : BQ sg x i), motive x (PSi.now x h)) (later : ∀ (x t : Nat) (h1 : BQ sg x t) (h2 : t ≠ j) (h3 : PSi sg i j (x ||| 2 ^ t)), motive (x ||| 2 ^ t) h3 → motive x (PSi.later x t h1 h2 h3)) {x : Nat} (q : PSi sg i j x) : motive x q := by
  have z : ∃ k : PSi sg i j x, motive x k := q (fun x => ∃ k : PSi sg i j x, motive x k) (fun x h => ⟨PSi.now x h, now x h⟩) (fun x t h1 h2 k => Exists.elim k (fun h3 m => ⟨PSi.later x t h1 h2 h3, later x t h1 h2 h3 m⟩))
  obtain ⟨_, m⟩ := z
  exact m
def OW (sg : Sg) (x : Nat) : Prop := ∀ P : Nat → Prop, P 0 → (∀ x t, P x → BQ sg x t → P (x ||| 2 ^ t)) → P x
theorem OW.zero {sg : Sg} : OW sg 0 := fun _ z _ => z
theorem OW.step {sg : Sg} (x t : Nat) (h1 : OW sg x) (h2 : BQ sg x t) : OW sg (x ||| 2 ^ t) := fun P z k => k x t (h1 P z k) h2
theorem OW.ind {sg : Sg} {motive : (x : Nat) → OW sg x → Prop} (zero : motive 0 OW.zero) (step : ∀ (x t : Nat) (h1 : OW sg x) (h2 : BQ sg x t), motive x h1 → motive (x ||| 2 ^ t) (OW.step x t h1 h2)) {x : Nat} (q : OW sg x) : motive x q := by
  have z : ∃ k : OW sg x, motive x k := q (fun x => ∃ k : OW sg x, motive x k) ⟨OW.zero, zero⟩ (fun x t k h2 => Exists.elim k (fun h1 m => ⟨OW.step x t h1 h2, step x t h1 h2 m⟩))
  obtain ⟨_, m⟩ := z
  exact m
theorem OW_lt {sg : Sg} {x : Nat} (h : OW sg x) : x < 2 ^ (sg 3 2).toInt.toNat := by
  induction h using OW.ind with
  | zero => exact Nat.pow_pos (by decide)
  | step x t _ b ih => exact or_lt ih b.1.1
theorem OW_back {sg : Sg} {i j x : Nat} (h : OW sg x) : x.testBit i = false → x.testBit j = false → PSi sg i j x → PSi sg i j 0 := by
  induction h using OW.ind with
  | zero => intro _ _ h; exact h
  | step x t _ b ih =>
    intro hi hj h
    rw [tb_or, Bool.or_eq_false_iff] at hi hj
    exact ih hi.1 hj.1 (PSi.later x t b (fun z => of_decide_eq_false hj.2 z) h)
theorem PS_fwd {sg : Sg} {i j x : Nat} (ne : i ≠ j) (h : PSi sg i j x) : OW sg x → x.testBit j = false → ∃ y, OW sg y ∧ BQ sg y i ∧ (y ||| 2 ^ i).testBit j = false := by
  induction h using PSi.ind with
  | now x b => intro o hj; exact ⟨x, o, b, tb_orf hj (fun z => ne z.symm)⟩
  | later x t b nt _ ih => intro o hj; exact ih (OW.step x t o b) (tb_orf hj (fun z => nt z.symm))
theorem PS_iff {sg : Sg} {i j : Nat} (ne : i ≠ j) : PSi sg i j 0 ↔ ∃ y, OW sg y ∧ BQ sg y i ∧ (y ||| 2 ^ i).testBit j = false := by
  constructor
  · intro h
    exact PS_fwd ne h OW.zero (Nat.zero_testBit _)
  · rintro ⟨y, o, b, hj⟩
    rw [tb_or, Bool.or_eq_false_iff] at hj
    exact OW_back o b.1.2.1 hj.1 (PSi.now y b)
/-- what agree leaves -/
def AV (sg : Sg) : Prop := ∀ i j, i < (sg 3 2).toInt.toNat → j < (sg 3 2).toInt.toNat → ((sg 24 i).toInt.toNat.testBit j = true ↔ ∃ y, OW sg y ∧ BQ sg y i ∧ (y ||| 2 ^ i).testBit j = false)
section
variable {sx sm : Sg} {lm : Lg} {A : Nat}
theorem bq_small {x j : Nat} (hI : IC0 sx) (hO : OV sx) (hx : x < 2 ^ (sx 3 2).toInt.toNat) (small : ¬ rr sx x = 1000000000) (b : BQ sx x j) : ¬ rr sx (x ||| 2 ^ j) = 1000000000 := fun z => by
  have b2 := b.2
  unfold rval at b2
  have n12 := rdC3_2 hI
  have rx := (hO x (by omega) hx).1
  have zl := zc_le x (sx 3 2).toInt.toNat
  have csb := cs_bd hI j x
  rcases rx.2.1 with y | y
  · exact small y.1
  · omega
/-- by hens and by slots -/
theorem PH_PS (hI : IC0 sx) (hF : FEq sx (sm 1)) (hM : MC sx) (hO : OV sx) (h7 : sm 0 7 = 1) (h9 : sm 0 9 = -1) (hA : A = (ctg (sm 1) (sm 1 0).toInt.toNat).toInt.toNat) (ns : ∀ h, ¬ Wt sx h h) (hR : ∀ X u, vn A X u → RN sm lm A X u) {a b x u : Nat} (ha : a < 12) (hb : b < 12) (ca : cnb sx a = true) (cb' : cnb sx b = true) (hx : x < 2 ^ rk sx 12) (hv : vn A (HS sx x) u) (hg : Good sx (HS sx x) u) (small : ¬ rr sx x = 1000000000) : PHi sm lm a b (HS sx x) u ↔ PSi sx (rk sx a) (rk sx b) x := by
  have en : (sx 3 2).toInt.toNat = rk sx 12 := by rw [hM.1]; rfl
  constructor
  · intro h
    generalize hX : HS sx x = X at h hv hg
    induction h using PHi.ind generalizing x with
    | now X u bb =>
      subst hX
      exact PSi.now x ((law_step hI hF hM hO h7 h9 hA ns hR hx hv hg small ha).1.mp bb).2
    | later X u h hh bb ne _ ih =>
      subst hX
      have st := law_step hI hF hM hO h7 h9 hA ns hR hx hv hg small hh
      obtain ⟨hc, bq⟩ := st.1.mp bb
      obtain ⟨gd, vx, wx⟩ := st.2 hc bq
      exact PSi.later x (rk sx h) bq (fun z => ne (rk_inj hc cb' z)) (ih (or_lt hx (rk_lt hc hh)) (bq_small hI hO (by rw [en]; exact hx) small bq) (HS_or hh hc) vx gd)
  · intro h
    induction h using PSi.ind generalizing u with
    | now x bq => exact PHi.now _ _ ((law_step hI hF hM hO h7 h9 hA ns hR hx hv hg small ha).1.mpr ⟨ca, bq⟩)
    | later x t bq ne _ ih =>
      have tn := bq.1.1
      rw [en] at tn
      obtain ⟨h, hh, hc, e⟩ := rk_onto (sg := sx) 12 t tn
      subst e
      have st := law_step hI hF hM hO h7 h9 hA ns hR hx hv hg small hh
      obtain ⟨gd, vx, wx⟩ := st.2 hc bq
      have oe := HS_or (x := x) hh hc
      refine PHi.later _ _ h hh (st.1.mpr ⟨hc, bq⟩) (fun z => ne (by rw [z])) ?_
      rw [← oe] at vx gd ⊢
      exact ih (or_lt hx (rk_lt hc hh)) vx gd (bq_small hI hO (by rw [en]; exact hx) small bq)
end
theorem BQ_cg {s r : Sg} {x j : Nat} (e3 : r 3 2 = s 3 2) (e21 : r 21 = s 21) (e22 : r 22 = s 22) (e23 : r 23 = s 23) (e63 : r 63 = s 63) : BQ r x j ↔ BQ s x j := by
  unfold BQ
  rw [CH_cg e3 e21 e22]
  have er : ∀ y, rr r y = rr s y := fun y => by unfold rr; rw [e63]
  have ev : rval r x j = rval s x j := by unfold rval; rw [er, cs_cg e23]
  rw [ev, er]
theorem OW_cg {s r : Sg} {x : Nat} (h : OW s x) (e : ∀ x j, BQ r x j ↔ BQ s x j) : OW r x := by
  induction h using OW.ind with
  | zero => exact OW.zero
  | step x t _ b ih => exact OW.step x t ih ((e x t).mpr b)
theorem AV_cg {s r : Sg} (h : AV s) (e3 : r 3 2 = s 3 2) (e21 : r 21 = s 21) (e22 : r 22 = s 22) (e23 : r 23 = s 23) (e63 : r 63 = s 63) (e24 : r 24 = s 24) : AV r := by
  have e : ∀ x j, BQ r x j ↔ BQ s x j := fun x j => BQ_cg e3 e21 e22 e23 e63
  intro i j hi hj
  rw [e3] at hi hj
  rw [e24, h i j hi hj]
  constructor
  · rintro ⟨y, o, b, z⟩
    exact ⟨y, OW_cg o e, (e y i).mpr b, z⟩
  · rintro ⟨y, o, b, z⟩
    exact ⟨y, OW_cg o (fun x j => (e x j).symm), (e y i).mp b, z⟩
/-! agree -/
def AF (sg t : Sg) : Prop := (∀ c, c ≠ 4 → c ≠ 24 → c ≠ 66 → c ≠ 99 → t c = sg c) ∧ (∀ j, j ≠ 66 → t 99 j = sg 99 j) ∧ (1 ≤ (t 99 66).toInt ∧ (t 99 66).toInt ≤ 4096) ∧ (∀ j, 0 ≤ (t 24 j).toInt ∧ (t 24 j).toInt ≤ 4095)
theorem ic_af {sg t : Sg} (h : IC0 sg) (a : AF sg t) : IC0 t := by
  obtain ⟨a1, a2, a3, a4⟩ := a
  refine ⟨fun k j => ?_, fun k j hk => by rw [a1 k (by omega) (by omega) (by omega) (by omega)]; exact h.2 k j hk⟩
  by_cases c : k = 4
  · subst c; exact ⟨lo32 _, hi32 _⟩
  · by_cases d : k = 24
    · subst d; exact a4 j
    · by_cases f : k = 66
      · subst f; exact ⟨lo32 _, hi32 _⟩
      · by_cases g : k = 99
        · subst g
          by_cases w : j = 66
          · subst w; exact a3
          · rw [a2 j w]; exact h.1 99 j
        · rw [a1 k c d f g]; exact h.1 k j
section
variable {sg : Sg} {n : Nat}
def Wy (sg : Sg) (k v y : Nat) : Prop := y = 0 ∨ ∃ x s, (OW sg x ∧ BQ sg x s ∧ (x < k ∨ (x = k ∧ s < v))) ∧ y = x ||| 2 ^ s
def My (sg : Sg) (k v i j : Nat) : Prop := ∃ x, (OW sg x ∧ BQ sg x i ∧ (x < k ∨ (x = k ∧ i < v))) ∧ (x ||| 2 ^ i).testBit j = false
/-- so far -/
def AI (sg t : Sg) (n k v : Nat) : Prop := AF sg t ∧ (((2 ^ n : Nat) : Int) ≤ (t 99 66).toInt) ∧ (∀ y, y < 2 ^ n → (t 66 y = 1 ↔ Wy sg k v y)) ∧ ∀ i j, i < n → j < n → ((t 24 i).toInt.toNat.testBit j = true ↔ My sg k v i j)
theorem Wy_end {k v y : Nat} (h : ∀ s, OW sg k → BQ sg k s → s < v) : Wy sg (k + 1) 0 y ↔ Wy sg k v y := by
  constructor
  · rintro (z | ⟨x, s, ⟨z1, z2, z3⟩, z4⟩)
    · exact Or.inl z
    · refine Or.inr ⟨x, s, ⟨z1, z2, ?_⟩, z4⟩
      by_cases c : x = k
      · rw [c] at z1 z2; exact Or.inr ⟨c, h s z1 z2⟩
      · exact Or.inl (by omega)
  · rintro (z | ⟨x, s, ⟨z1, z2, z3⟩, z4⟩)
    · exact Or.inl z
    · exact Or.inr ⟨x, s, ⟨z1, z2, by omega⟩, z4⟩
theorem My_end {k v i j : Nat} (h : ∀ s, OW sg k → BQ sg k s → s < v) : My sg (k + 1) 0 i j ↔ My sg k v i j := by
  constructor
  · rintro ⟨x, ⟨z1, z2, z3⟩, z4⟩
    refine ⟨x, ⟨z1, z2, ?_⟩, z4⟩
    by_cases c : x = k
    · rw [c] at z1 z2; exact Or.inr ⟨c, h i z1 z2⟩
    · exact Or.inl (by omega)
  · rintro ⟨x, ⟨z1, z2, z3⟩, z4⟩
    exact ⟨x, ⟨z1, z2, by omega⟩, z4⟩
theorem Wy_ow {k : Nat} : Wy sg k 0 k ↔ OW sg k := by
  constructor
  · rintro (z | ⟨x, s, ⟨z1, z2, z3⟩, z4⟩)
    · rw [z]; exact OW.zero
    · rw [z4]; exact OW.step x s z1 z2
  · intro h
    induction h using OW.ind with
    | zero => exact Or.inl rfl
    | step x t o b _ => exact Or.inr ⟨x, t, ⟨o, b, Or.inl (or_gt b.1.2.1)⟩, rfl⟩
set_option maxHeartbeats 4000000 in
theorem ag_105 {t0 : Sg} {v1 v2 O : Int32} {P : Sg → Prop} {r77 : (Int32 × Int32 × Sg) → Option Sg} (hn : (sg 3 2).toInt = (n : Int)) (n12 : n ≤ 12) (hI : IC0 sg) (k0' : 0 ≤ v2.toInt) (k1' : v2.toInt.toNat < 2 ^ n) (al0 : 0 ≤ v1.toInt) (al : v1.toInt.toNat = 2 ^ n - 1) (o0 : 0 ≤ O.toInt) (o1 : O.toInt ≤ 4095) (ob : ∀ s, O.toInt.toNat.testBit s = true ↔ (OW sg v2.toInt.toNat ∧ BQ sg v2.toInt.toNat s)) {c4 : Nat → Int32} (h0 : AI sg t0 n v2.toInt.toNat 0) (h04 : t0 4 = c4)
    (hr : ∀ (x : Int32) (t : Sg), x.toInt = v2.toInt + 1 → AI sg t n (v2.toInt.toNat + 1) 0 → t 4 = c4 → Ok P (r77 (v1, x, t))) : Ok P (LX9_agree_105 r77 (v1, v2, O, (0 : Int32), t0)) := by
  have k0 : (0 : Int32).toInt = 0 := by decide
  have k4 := lt4096 k1' n12
  have on : ∀ s, O.toInt.toNat.testBit s = true → s < n := fun s hs => by
    have := ((ob s).mp hs).2.1.1
    omega
  unfold LX9_agree_105
  refine ok_loop (I := fun (q : Int32 × Int32 × Int32 × Int32 × Sg) => q.1 = v1 ∧ q.2.1 = v2 ∧ q.2.2.1 = O ∧ 0 ≤ q.2.2.2.1.toInt ∧ q.2.2.2.1.toInt ≤ (n : Int) ∧ AI sg q.2.2.2.2 n v2.toInt.toNat q.2.2.2.1.toInt.toNat ∧ q.2.2.2.2 4 = c4) (m := fun (q : Int32 × Int32 × Int32 × Int32 × Sg) => (13 - q.2.2.2.1.toInt).toNat) _ ?_ ?_ _ ?_
  · intro q hq
    have := hq.2.2.2.1
    show (13 - q.2.2.2.1.toInt).toNat < 10000
    omega
  · intro rec q hq hrec
    obtain ⟨q1, q2, q3, v4, t⟩ := q
    replace hq : q1 = v1 ∧ q2 = v2 ∧ q3 = O ∧ 0 ≤ v4.toInt ∧ v4.toInt ≤ (n : Int) ∧ AI sg t n v2.toInt.toNat v4.toInt.toNat ∧ t 4 = c4 := hq
    obtain ⟨e1, e2, e3, b0, b1, ht, e4⟩ := hq
    obtain ⟨af, lq, w66, m24⟩ := ht
    rw [e1, e2, e3]
    show Ok P (fX9_agree_105 r77 rec v1 v2 O v4 t)
    unfold fX9_agree_105
    rw [af.1 3 (by decide) (by decide) (by decide) (by decide)]
    have hc4 := cl_i b0
    have fin : (∀ s, O.toInt.toNat.testBit s = true → s < v4.toInt.toNat) → Ok P (fX9_agree_171 r77 v1 v2 t) := by
      intro hs
      unfold fX9_agree_171
      refine ok_lt (fun x e => ?_)
      replace e : x.toInt = v2.toInt + 1 := by rw [e]; exact add_c 1 (by decide) (by omega) (by omega)
      have hz : ∀ s, OW sg v2.toInt.toNat → BQ sg v2.toInt.toNat s → s < v4.toInt.toNat := fun s a b => hs s ((ob s).mpr ⟨a, b⟩)
      refine hr x t e ⟨af, lq, fun y hy => ?_, fun i j hi hj => ?_⟩ e4
      · rw [w66 y hy, Wy_end hz]
      · rw [m24 i j hi hj, My_end hz]
    have go : ∀ t' : Sg, v4.toInt < (n : Int) → AI sg t' n v2.toInt.toNat (v4.toInt.toNat + 1) → t' 4 = c4 → Ok P (fX9_agree_165 r77 rec v1 v2 O v4 t') := by
      intro t' g0 g1 g4
      unfold fX9_agree_165
      refine ok_lt (fun x e => ?_)
      replace e : x.toInt = v4.toInt + 1 := by rw [e]; exact add_c 1 (by decide) (by omega) (by omega)
      refine hrec (v1, v2, O, x, t') ⟨rfl, rfl, rfl, by show 0 ≤ x.toInt; omega, by show x.toInt ≤ (n : Int); omega, ?_, g4⟩ (show (13 - x.toInt).toNat < (13 - v4.toInt).toNat by omega)
      show AI sg t' n v2.toInt.toNat x.toInt.toNat
      rw [show x.toInt.toNat = v4.toInt.toNat + 1 by omega]; exact g1
    refine ok_ite (fun c => ?_) (fun c => ?_)
    · replace c := i_le.mp c
      rw [hn] at c
      exact fin (fun s hs => by have := on s hs; omega)
    · replace c := i_nle.mp c
      rw [hn] at c
      refine ok_ite (fun d => ?_) (fun d => ?_)
      · have sh := shr_is (a := O) (v := v4) b0 (by omega)
        rw [d, k0] at sh
        refine fin (fun s hs => Nat.not_le.mp (fun z => ?_))
        have p2 : 0 < 2 ^ v4.toInt.toNat := Nat.pow_pos (by decide)
        have lt : O.toInt.toNat < 2 ^ v4.toInt.toNat := by
          refine Decidable.byContradiction fun y => ?_
          have h1 : ((2 ^ v4.toInt.toNat : Nat) : Int) ≤ O.toInt := by omega
          have h2 := Int.ediv_le_ediv (by omega : (0 : Int) < ((2 ^ v4.toInt.toNat : Nat) : Int)) h1
          rw [Int.ediv_self (by omega)] at h2
          omega
        rw [tb_hi lt z] at hs
        cases hs
      · refine bnd2_of isIn_is ?_
        have bi := bit_n (a := O) (v := v4) o0 b0 (by omega)
        by_cases f : ((O >>> (v4 &&& 31)) &&& (1 : Int32)) = (1 : Int32)
        · rw [if_pos f, ite1]
          obtain ⟨ow, bq⟩ := (ob _).mp (bi.mp f)
          have tn := tset_n (set := v2) (h := v4) k0' (by omega) b0 (by omega)
          have ti := tset_i (set := v2) (h := v4) k0' (by omega) b0 (by omega)
          have ol := or_lt k1' (show v4.toInt.toNat < n by omega)
          refine ok_lt (fun x8 e8 => ?_)
          rw [← e8] at tn ti
          have c8 := cl_i ti.1
          refine ok_ginL (by omega) (by omega) ?_
          refine ok_lt (fun s10 e10 => ?_)
          rw [show x8.toNatClampNeg = v2.toInt.toNat ||| 2 ^ v4.toInt.toNat by omega, show (1 : Int32).toInt8.toInt32 = 1 by decide] at e10
          refine ok_gin (by omega) (by omega) ?_
          refine ok_lt (fun x12 e12 => ?_)
          rw [show v4.toNatClampNeg = v4.toInt.toNat by omega] at e12
          have r24 : 0 ≤ (s10 24 v4.toInt.toNat).toInt ∧ (s10 24 v4.toInt.toNat).toInt ≤ 4095 := by rw [e10, up2_n (by decide)]; exact af.2.2.2 _
          have cp := tb_cpl (y := v1) (v := x8) al0 ti.1
          have an := and_l (a := v1) (b := x8 ^^^ (-1 : Int32)) al0
          have v1l : v1.toInt ≤ 4095 := by have := lt4096 (x := v1.toInt.toNat) (n := n) (by rw [al]; have : 0 < 2 ^ n := Nat.pow_pos (by decide); omega) n12; omega
          have orr := or_n r24.1 r24.2 an.1 (by omega)
          rw [← e12] at orr
          refine ok_gin (by omega) (by omega) ?_
          refine ok_lt (fun s14 e14 => ?_)
          rw [show v4.toNatClampNeg = v4.toInt.toNat by omega] at e14
          have fr : ∀ c, c ≠ 24 → c ≠ 66 → s14 c = t c := fun c h1 h2 => by rw [e14, up2_n h1, e10, up2_n h2]
          refine go s14 c ⟨⟨fun c h1 h2 h3 h4 => by rw [fr c h2 h3]; exact af.1 c h1 h2 h3 h4, fun j hj => by rw [fr 99 (by decide) (by decide)]; exact af.2.1 j hj, by rw [fr 99 (by decide) (by decide)]; exact af.2.2.1, fun j => ?_⟩, by rw [fr 99 (by decide) (by decide)]; exact lq, fun y hy => ?_, fun i j hi hj => ?_⟩ (by rw [fr 4 (by decide) (by decide)]; exact e4)
          · by_cases w : j = v4.toInt.toNat
            · rw [w, e14, up2_e]; exact orr.2
            · rw [e14, up2_o (Or.inr w), e10, up2_n (by decide)]; exact af.2.2.2 j
          · rw [e14, up2_n (by decide), e10]
            by_cases w : y = v2.toInt.toNat ||| 2 ^ v4.toInt.toNat
            · rw [w, up2_e]
              exact ⟨fun _ => Or.inr ⟨v2.toInt.toNat, v4.toInt.toNat, ⟨ow, bq, Or.inr ⟨rfl, by omega⟩⟩, rfl⟩, fun _ => rfl⟩
            · rw [up2_o (Or.inr w), w66 y hy]
              constructor
              · rintro (z | ⟨x, s, ⟨z1, z2, z3⟩, z4⟩)
                · exact Or.inl z
                · exact Or.inr ⟨x, s, ⟨z1, z2, by omega⟩, z4⟩
              · rintro (z | ⟨x, s, ⟨z1, z2, z3⟩, z4⟩)
                · exact Or.inl z
                · refine Or.inr ⟨x, s, ⟨z1, z2, ?_⟩, z4⟩
                  rcases z3 with z3 | ⟨z3, z5⟩
                  · exact Or.inl z3
                  · refine Or.inr ⟨z3, ?_⟩
                    have : s ≠ v4.toInt.toNat := fun y' => by rw [z3, y'] at z4; exact w z4
                    omega
          · by_cases w : i = v4.toInt.toNat
            · subst w
              rw [e14, up2_e, orr.1, Nat.testBit_or, Bool.or_eq_true, cp j, al, tb_all, decide_eq_true hj, Bool.true_and, e10, up2_n (by decide), tn, m24 _ j hi hj, Bool.not_eq_true']
              constructor
              · rintro (⟨x, ⟨z1, z2, z3⟩, z4⟩ | z)
                · exact ⟨x, ⟨z1, z2, by omega⟩, z4⟩
                · exact ⟨v2.toInt.toNat, ⟨ow, bq, Or.inr ⟨rfl, by omega⟩⟩, z⟩
              · rintro ⟨x, ⟨z1, z2, z3⟩, z4⟩
                by_cases y : x = v2.toInt.toNat
                · rw [y] at z4; exact Or.inr z4
                · exact Or.inl ⟨x, ⟨z1, z2, Or.inl (by omega)⟩, z4⟩
            · rw [e14, up2_o (Or.inr w), e10, up2_n (by decide), m24 i j hi hj]
              constructor
              · rintro ⟨x, ⟨z1, z2, z3⟩, z4⟩; exact ⟨x, ⟨z1, z2, by omega⟩, z4⟩
              · rintro ⟨x, ⟨z1, z2, z3⟩, z4⟩; exact ⟨x, ⟨z1, z2, by omega⟩, z4⟩
        · rw [if_neg f, ite0]
          have nb : ¬ (OW sg v2.toInt.toNat ∧ BQ sg v2.toInt.toNat v4.toInt.toNat) := fun z => f (bi.mpr ((ob _).mpr z))
          refine go t c ⟨af, lq, fun y hy => ?_, fun i j hi hj => ?_⟩ e4
          · rw [w66 y hy]
            constructor
            · rintro (z | ⟨x, s, ⟨z1, z2, z3⟩, z4⟩)
              · exact Or.inl z
              · exact Or.inr ⟨x, s, ⟨z1, z2, by omega⟩, z4⟩
            · rintro (z | ⟨x, s, ⟨z1, z2, z3⟩, z4⟩)
              · exact Or.inl z
              · refine Or.inr ⟨x, s, ⟨z1, z2, ?_⟩, z4⟩
                rcases z3 with z3 | ⟨z3, z5⟩
                · exact Or.inl z3
                · refine Or.inr ⟨z3, ?_⟩
                  have : s ≠ v4.toInt.toNat := fun y' => by rw [z3] at z1 z2; rw [y'] at z2; exact nb ⟨z1, z2⟩
                  omega
          · rw [m24 i j hi hj]
            constructor
            · rintro ⟨x, ⟨z1, z2, z3⟩, z4⟩; exact ⟨x, ⟨z1, z2, by omega⟩, z4⟩
            · rintro ⟨x, ⟨z1, z2, z3⟩, z4⟩
              refine ⟨x, ⟨z1, z2, ?_⟩, z4⟩
              rcases z3 with z3 | ⟨z3, z5⟩
              · exact Or.inl z3
              · refine Or.inr ⟨z3, ?_⟩
                have : i ≠ v4.toInt.toNat := fun y' => by rw [z3] at z1 z2; rw [y'] at z2; exact nb ⟨z1, z2⟩
                omega
  · exact ⟨rfl, rfl, rfl, by show 0 ≤ (0 : Int32).toInt; omega, by show (0 : Int32).toInt ≤ (n : Int); omega, h0, h04⟩
end
/-! agree as a whole -/
theorem fill66 {t0 : Sg} (l1 : 1 ≤ (t0 99 66).toInt) (l2 : (t0 99 66).toInt ≤ 4096) : Ok (fun r => (∀ c, c ≠ 66 → r c = t0 c) ∧ ∀ j : Nat, (j : Int) < (t0 99 66).toInt → r 66 j = 0) (fJ7_fill_031fb_c66 (0 : Int32) t0) := by
  have k0 : (0 : Int32).toInt = 0 := by decide
  have hc := cl_i (i := t0 99 66) (by omega)
  unfold fJ7_fill_031fb_c66
  refine ok_lt (fun x1 e1 => ?_)
  have ex : x1 = t0 99 66 := by
    have := of_i (v := t0 99 66) (by omega)
    rw [e1, show (t0 99 66).toNatClampNeg = (t0 99 66).toInt.toNat by omega]
    exact this.symm
  rw [ex]
  unfold LJ7_fill_031fb_c66_5
  refine ok_loop (I := fun (q : Int32 × Int32 × Int32 × Sg) => q.1 = 0 ∧ q.2.2.1 = t0 99 66 ∧ 0 ≤ q.2.1.toInt ∧ q.2.1.toInt ≤ (t0 99 66).toInt ∧ (∀ c, c ≠ 66 → q.2.2.2 c = t0 c) ∧ ∀ j : Nat, (j : Int) < q.2.1.toInt → q.2.2.2 66 j = 0) (m := fun (q : Int32 × Int32 × Int32 × Sg) => (4097 - q.2.1.toInt).toNat) _ ?_ ?_ _ ?_
  · intro q hq
    have := hq.2.2.1
    show (4097 - q.2.1.toInt).toNat < 10000
    omega
  · intro rec q hq hrec
    obtain ⟨q1, v2, q3, t⟩ := q
    replace hq : q1 = 0 ∧ q3 = t0 99 66 ∧ 0 ≤ v2.toInt ∧ v2.toInt ≤ (t0 99 66).toInt ∧ (∀ c, c ≠ 66 → t c = t0 c) ∧ ∀ j : Nat, (j : Int) < v2.toInt → t 66 j = 0 := hq
    obtain ⟨e1, e2, b0, b1, ft, hz⟩ := hq
    rw [e1, e2]
    show Ok _ (fJ7_fill_031fb_c66_5 rec 0 v2 (t0 99 66) t)
    unfold fJ7_fill_031fb_c66_5
    have c2 := cl_i b0
    refine ok_ite (fun c => ?_) (fun c => ?_)
    · replace c := i_le.mp c
      exact ok_some ⟨ft, fun j hj => hz j (by omega)⟩
    · replace c := i_nle.mp c
      rw [ft 99 (by decide)]
      refine ok_ginL (by omega) (by omega) ?_
      refine ok_lt (fun s3 e3 => ?_)
      rw [show v2.toNatClampNeg = v2.toInt.toNat by omega, show (0 : Int32).toInt8.toInt32 = 0 by decide] at e3
      refine ok_lt (fun x e => ?_)
      replace e : x.toInt = v2.toInt + 1 := by rw [e]; exact add_c 1 (by decide) (by omega) (by omega)
      refine hrec (0, x, t0 99 66, s3) ⟨rfl, rfl, by show 0 ≤ x.toInt; omega, by show x.toInt ≤ _; omega, fun c hc => by show s3 c = t0 c; rw [e3, up2_n hc]; exact ft c hc, fun j hj => ?_⟩ (show (4097 - x.toInt).toNat < (4097 - v2.toInt).toNat by omega)
      replace hj : (j : Int) < x.toInt := hj
      show s3 66 j = 0
      by_cases w : j = v2.toInt.toNat
      · rw [w, e3, up2_e]
      · rw [e3, up2_o (Or.inr w)]; exact hz j (by omega)
  · refine ⟨rfl, rfl, by show 0 ≤ (0 : Int32).toInt; omega, by show (0 : Int32).toInt ≤ _; omega, fun _ _ => rfl, fun j hj => ?_⟩
    replace hj : (j : Int) < (0 : Int32).toInt := hj
    omega
theorem fill24 {t0 : Sg} : Ok (fun r => (∀ c, c ≠ 24 → r c = t0 c) ∧ (∀ j, j < 12 → r 24 j = 0) ∧ ∀ j, 12 ≤ j → r 24 j = t0 24 j) (fJ7_fill_53178_c24 (0 : Int32) t0) := by
  have k0 : (0 : Int32).toInt = 0 := by decide
  have k12 : (12 : Int32).toInt = 12 := by decide
  unfold fJ7_fill_53178_c24 LJ7_fill_53178_c24_5
  refine ok_loop (I := fun (q : Int32 × Int32 × Int32 × Sg) => q.1 = 0 ∧ q.2.2.1 = 12 ∧ 0 ≤ q.2.1.toInt ∧ q.2.1.toInt ≤ 12 ∧ (∀ c, c ≠ 24 → q.2.2.2 c = t0 c) ∧ (∀ j : Nat, (j : Int) < q.2.1.toInt → q.2.2.2 24 j = 0) ∧ ∀ j : Nat, 12 ≤ j → q.2.2.2 24 j = t0 24 j) (m := fun (q : Int32 × Int32 × Int32 × Sg) => (13 - q.2.1.toInt).toNat) _ ?_ ?_ _ ?_
  · intro q hq
    have := hq.2.2.1
    show (13 - q.2.1.toInt).toNat < 10000
    omega
  · intro rec q hq hrec
    obtain ⟨q1, v2, q3, t⟩ := q
    replace hq : q1 = 0 ∧ q3 = 12 ∧ 0 ≤ v2.toInt ∧ v2.toInt ≤ 12 ∧ (∀ c, c ≠ 24 → t c = t0 c) ∧ (∀ j : Nat, (j : Int) < v2.toInt → t 24 j = 0) ∧ ∀ j : Nat, 12 ≤ j → t 24 j = t0 24 j := hq
    obtain ⟨e1, e2, b0, b1, ft, hz, hy⟩ := hq
    rw [e1, e2]
    show Ok _ (fJ7_fill_53178_c24_5 rec 0 v2 12 t)
    unfold fJ7_fill_53178_c24_5
    have c2 := cl_i b0
    refine ok_ite (fun c => ?_) (fun c => ?_)
    · replace c := i_le.mp c
      exact ok_some ⟨ft, fun j hj => hz j (by omega), hy⟩
    · replace c := i_nle.mp c
      refine ok_gin (by omega) (by omega) ?_
      refine ok_lt (fun s3 e3 => ?_)
      rw [show v2.toNatClampNeg = v2.toInt.toNat by omega] at e3
      refine ok_lt (fun x e => ?_)
      replace e : x.toInt = v2.toInt + 1 := by rw [e]; exact add_c 1 (by decide) (by omega) (by omega)
      refine hrec (0, x, 12, s3) ⟨rfl, rfl, by show 0 ≤ x.toInt; omega, by show x.toInt ≤ _; omega, fun c hc => by show s3 c = t0 c; rw [e3, up2_n hc]; exact ft c hc, fun j hj => ?_, fun j hj => by show s3 24 j = t0 24 j; rw [e3, up2_o (Or.inr (by omega))]; exact hy j hj⟩ (show (13 - x.toInt).toNat < (13 - v2.toInt).toNat by omega)
      replace hj : (j : Int) < x.toInt := hj
      show s3 24 j = 0
      by_cases w : j = v2.toInt.toNat
      · rw [w, e3, up2_e]
      · rw [e3, up2_o (Or.inr w)]; exact hz j (by omega)
  · refine ⟨rfl, rfl, by show 0 ≤ (0 : Int32).toInt; omega, by show (0 : Int32).toInt ≤ 12; omega, fun _ _ => rfl, fun j hj => ?_, fun _ _ => rfl⟩
    replace hj : (j : Int) < (0 : Int32).toInt := hj
    omega
section
variable {sg : Sg} {n : Nat}
set_option maxHeartbeats 4000000 in
theorem ag_77 {t0 : Sg} {v1 : Int32} (hI : IC0 sg) (hH : HC sg) (hO : OV sg) (hl : LN sg) (hn : (sg 3 2).toInt = (n : Int)) (n12 : n ≤ 12) (al0 : 0 ≤ v1.toInt) (al : v1.toInt.toNat = 2 ^ n - 1) (h0 : AI sg t0 n 0 0) : Ok (fun t => AI sg t n (2 ^ n - 1) 0 ∧ t 4 = t0 4) (LX9_agree_77 (v1, (0 : Int32), t0)) := by
  have k0 : (0 : Int32).toInt = 0 := by decide
  have pp : 0 < 2 ^ n := Nat.pow_pos (by decide)
  have q12 : 2 ^ n ≤ 2 ^ 12 := Nat.pow_le_pow_right (by decide) n12
  have e12 : (2 : Nat) ^ 12 = 4096 := by decide
  have cgs : ∀ t, AF sg t → ∀ x j, BQ t x j ↔ BQ sg x j := fun t a x j => BQ_cg (by rw [a.1 3 (by decide) (by decide) (by decide) (by decide)]) (a.1 21 (by decide) (by decide) (by decide) (by decide)) (a.1 22 (by decide) (by decide) (by decide) (by decide)) (a.1 23 (by decide) (by decide) (by decide) (by decide)) (a.1 63 (by decide) (by decide) (by decide) (by decide))
  unfold LX9_agree_77
  refine ok_loop (I := fun (q : Int32 × Int32 × Sg) => q.1 = v1 ∧ 0 ≤ q.2.1.toInt ∧ q.2.1.toInt ≤ v1.toInt ∧ AI sg q.2.2 n q.2.1.toInt.toNat 0 ∧ q.2.2 4 = t0 4) (m := fun (q : Int32 × Int32 × Sg) => (4097 - q.2.1.toInt).toNat) _ ?_ ?_ _ ?_
  · intro q hq
    have := hq.2.1
    show (4097 - q.2.1.toInt).toNat < 10000
    omega
  · intro rec q hq hrec
    obtain ⟨q1, v2, t⟩ := q
    replace hq : q1 = v1 ∧ 0 ≤ v2.toInt ∧ v2.toInt ≤ v1.toInt ∧ AI sg t n v2.toInt.toNat 0 ∧ t 4 = t0 4 := hq
    obtain ⟨e1, b0, b1, ht, e4⟩ := hq
    rw [e1]
    show Ok _ (fX9_agree_77 rec v1 v2 t)
    unfold fX9_agree_77
    have c2 := cl_i b0
    refine ok_ite (fun c => ?_) (fun c => ?_)
    · replace c := i_le.mp c
      refine ok_some ⟨?_, e4⟩
      rw [show v2.toInt.toNat = 2 ^ n - 1 by omega] at ht
      exact ht
    · replace c := i_nle.mp c
      obtain ⟨af, lq, w66, m24⟩ := id ht
      have k1' : v2.toInt.toNat < 2 ^ n := by omega
      have onw : t 66 v2.toInt.toNat = 1 ↔ OW sg v2.toInt.toNat := (w66 _ k1').trans Wy_ow
      refine ok_ginL (by omega) (by omega) ?_
      rw [show v2.toNatClampNeg = v2.toInt.toNat by omega]
      have fin : ∀ O : Int32, 0 ≤ O.toInt → O.toInt ≤ 4095 → (∀ s, O.toInt.toNat.testBit s = true ↔ (OW sg v2.toInt.toNat ∧ BQ sg v2.toInt.toNat s)) → Ok (fun t => AI sg t n (2 ^ n - 1) 0 ∧ t 4 = t0 4) (fX9_agree_101 rec v1 v2 O t) := by
        intro O o0 o1 ob
        unfold fX9_agree_101
        refine ag_105 hn n12 hI b0 k1' al0 al o0 o1 ob ht e4 (fun x t' ex ht' e4' => ?_)
        refine hrec (v1, x, t') ⟨rfl, by show 0 ≤ x.toInt; omega, by show x.toInt ≤ v1.toInt; omega, ?_, e4'⟩ (show (4097 - x.toInt).toNat < (4097 - v2.toInt).toNat by omega)
        show AI sg t' n x.toInt.toNat 0
        rw [show x.toInt.toNat = v2.toInt.toNat + 1 by omega]
        exact ht'
      refine ok_ite (fun d => ?_) (fun d => ?_)
      · have ow := onw.mp d
        have e32 : t 3 2 = sg 3 2 := by rw [af.1 3 (by decide) (by decide) (by decide) (by decide)]
        have it := ic_af hI af
        have oH : HC t := hc_cg hH e32 (fun k a b c => af.1 k (by omega) c (by omega) (by omega))
        have oO : OV t := OV_cg hO e32 (af.1 63 (by decide) (by decide) (by decide) (by decide)) (af.1 64 (by decide) (by decide) (by decide) (by decide)) (fun k a b => af.1 k (by omega) (by omega) (by omega) (by omega))
        have oL : LN t := by
          unfold LN
          rw [e32, af.2.1 63 (by decide), af.2.1 64 (by decide)]
          exact hl
        obtain ⟨O, o1, o2, o3, o4⟩ := bestc_is it oH oO oL b0 (by rw [e32, hn]; exact k1')
        refine bnd2_of o1 ?_
        exact fin O o2 o3 (fun s => by rw [o4 s, cgs t af]; exact ⟨fun z => ⟨ow, z⟩, fun z => z.2⟩)
      · refine fin 0 (by decide) (by decide) (fun s => ?_)
        rw [k0, show (0 : Int).toNat = 0 from rfl, Nat.zero_testBit]
        exact ⟨fun z => absurd z (by decide), fun z => absurd (onw.mpr z.1) d⟩
  · exact ⟨rfl, by show 0 ≤ (0 : Int32).toInt; omega, by show (0 : Int32).toInt ≤ v1.toInt; omega, by show AI sg t0 n (0 : Int32).toInt.toNat 0; rw [k0]; exact h0, rfl⟩
set_option maxHeartbeats 4000000 in
theorem ag_52 {t0 : Sg} {v1 : Int32} (hI : IC0 sg) (hH : HC sg) (hO : OV sg) (hl : LN sg) (hn : (sg 3 2).toInt = (n : Int)) (n12 : n ≤ 12) (al0 : 0 ≤ v1.toInt) (al : v1.toInt.toNat = 2 ^ n - 1) (af : AF sg t0) (lq : ((2 ^ n : Nat) : Int) ≤ (t0 99 66).toInt) : Ok (fun t => AI sg t n (2 ^ n - 1) 0 ∧ t 4 = t0 4) (fX9_agree_52 v1 t0) := by
  have k0 : (0 : Int32).toInt = 0 := by decide
  have pp : 0 < 2 ^ n := Nat.pow_pos (by decide)
  have r66 := af.2.2.1
  unfold fX9_agree_52
  refine ok_bnd1 (fill66 r66.1 r66.2) (fun s1 h1 => ?_)
  obtain ⟨f1, z1⟩ := h1
  refine ok_bnd1 (fill24 (t0 := s1)) (fun s3 h3 => ?_)
  obtain ⟨f3, z3, y3⟩ := h3
  have g3 : ∀ c, c ≠ 24 → c ≠ 66 → s3 c = t0 c := fun c a b => by rw [f3 c a]; exact f1 c b
  rw [g3 99 (by decide) (by decide)]
  refine ok_ginL (by omega) (by omega) ?_
  refine ok_lt (fun s6 e6 => ?_)
  rw [show (0 : Int32).toNatClampNeg = 0 by decide, show (1 : Int32).toInt8.toInt32 = 1 by decide] at e6
  have g6 : ∀ c, c ≠ 24 → c ≠ 66 → s6 c = t0 c := fun c a b => by rw [e6, up2_n b]; exact g3 c a b
  have e24 : ∀ j, s6 24 j = s3 24 j := fun j => by rw [e6, up2_n (by decide)]
  refine ok_mono (ag_77 hI hH hO hl hn n12 al0 al ⟨⟨fun c a b d f => by rw [g6 c b d]; exact af.1 c a b d f, fun j hj => by rw [g6 99 (by decide) (by decide)]; exact af.2.1 j hj, by rw [g6 99 (by decide) (by decide)]; exact r66, fun j => ?_⟩, by rw [g6 99 (by decide) (by decide)]; exact lq, fun y hy => ?_, fun i j hi hj => ?_⟩) (fun t ht => ⟨ht.1, by rw [ht.2]; exact g6 4 (by decide) (by decide)⟩)
  · rw [e24]
    by_cases w : j < 12
    · rw [z3 j w, k0]; omega
    · rw [y3 j (by omega), f1 24 (by decide)]; exact af.2.2.2 j
  · have no : Wy sg 0 0 y ↔ y = 0 := by
      constructor
      · rintro (z | ⟨x, s, ⟨-, -, z⟩, -⟩)
        · exact z
        · omega
      · exact Or.inl
    rw [no]
    by_cases w : y = 0
    · rw [w, e6, up2_e]; exact ⟨fun _ => rfl, fun _ => rfl⟩
    · rw [e6, up2_o (Or.inr w), f3 66 (by decide), z1 y (by omega)]
      exact ⟨fun z => absurd z (by decide), fun z => absurd z w⟩
  · rw [e24, z3 i (by omega), k0, show (0 : Int).toNat = 0 from rfl, Nat.zero_testBit]
    constructor
    · intro z; cases z
    · rintro ⟨x, ⟨-, -, z⟩, -⟩
      omega
set_option maxHeartbeats 4000000 in
theorem c_agree (hI : IC0 sg) (hH : HC sg) (hO : OV sg) (hl : LN sg) (nc : ¬ sg 4 3 = sg 3 1) : Ok (fun t => AF sg t ∧ t 4 3 = sg 3 1 ∧ AV t) (fX9_agree sg) := by
  have hn' := rdC3_2 hI
  obtain ⟨n, hn⟩ : ∃ n : Nat, (sg 3 2).toInt = (n : Int) := ⟨(sg 3 2).toInt.toNat, by omega⟩
  have n12 : n ≤ 12 := by omega
  have en : (sg 3 2).toInt.toNat = n := by omega
  have pp : 0 < 2 ^ n := Nat.pow_pos (by decide)
  have q12 : 2 ^ n ≤ 2 ^ 12 := Nat.pow_le_pow_right (by decide) n12
  have e12 : (2 : Nat) ^ 12 = 4096 := by decide
  unfold fX9_agree
  rw [if_neg nc]
  refine ok_lt (fun x2 e2 => ?_)
  refine ok_lt (fun s3 e3 => ?_)
  have f3 : ∀ c, c ≠ 4 → s3 c = sg c := fun c hc => by rw [e3, up2_n hc]
  have r66 := rdC99_66 hI
  have af3 : AF sg s3 := ⟨fun c a _ _ _ => f3 c a, fun j _ => by rw [f3 99 (by decide)], by rw [f3 99 (by decide)]; exact r66, fun j => by rw [f3 24 (by decide)]; exact rdC24 hI⟩
  have i3 := ic_af hI af3
  obtain ⟨y, ey, y1, y2⟩ := all_is i3
  rw [f3 3 (by decide), en] at y1 y2
  have e43 : s3 4 3 = sg 3 1 := by rw [e3, up2_e]; exact e2
  refine bnd2_of ey ?_
  have done : ∀ t, AI sg t n (2 ^ n - 1) 0 → AV t := by
    intro t ht
    obtain ⟨af, lq, w66, m24⟩ := ht
    have e : ∀ x j, BQ t x j ↔ BQ sg x j := fun x j => BQ_cg (by rw [af.1 3 (by decide) (by decide) (by decide) (by decide)]) (af.1 21 (by decide) (by decide) (by decide) (by decide)) (af.1 22 (by decide) (by decide) (by decide) (by decide)) (af.1 23 (by decide) (by decide) (by decide) (by decide)) (af.1 63 (by decide) (by decide) (by decide) (by decide))
    intro i j hi hj
    rw [af.1 3 (by decide) (by decide) (by decide) (by decide), en] at hi hj
    rw [m24 i j hi hj]
    constructor
    · rintro ⟨x, ⟨z1, z2, -⟩, z3⟩
      exact ⟨x, OW_cg z1 e, (e x i).mpr z2, z3⟩
    · rintro ⟨x, z1, z2, z3⟩
      have z1' := OW_cg z1 (fun x j => (e x j).symm)
      have z2' := (e x i).mp z2
      refine ⟨x, ⟨z1', z2', Or.inl ?_⟩, z3⟩
      have xl := OW_lt z1'
      rw [en] at xl
      have g := or_gt z2'.1.2.1
      have ol := or_lt xl hi
      omega
  refine ok_ite (fun c => ?_) (fun c => ?_)
  · replace c := i_lt.mp c
    rw [ofn_i (by rw [f3 99 (by decide)]; omega)] at c
    refine ok_mono (ag_52 hI hH hO hl hn n12 (by omega) y2 af3 (by omega)) (fun t ht => ⟨ht.1.1, by rw [ht.2]; exact e43, done t ht.1⟩)
  · refine ok_lt (fun x8 e8 => ?_)
    replace e8 : x8.toInt = y.toInt + 1 := by rw [e8]; exact add_c 1 (by decide) (by omega) (by omega)
    refine ok_gnw (by omega) (by omega) ?_
    refine ok_lt (fun s10 e10 => ?_)
    have f10 : ∀ k, k ≠ 66 → k ≠ 99 → s10 k = s3 k := fun k a b => by
      funext j
      rw [e10, nw2_is, if_neg a, if_neg (fun z => b z.1)]
    have f99 : ∀ j, j ≠ 66 → s10 99 j = s3 99 j := fun j hj => by rw [e10, nw2_is, if_neg (by decide), if_neg (fun z => hj z.2)]
    have g99 : s10 99 66 = x8 := by rw [e10, nw2_is, if_neg (by decide), if_pos ⟨rfl, rfl⟩]
    have af10 : AF sg s10 := ⟨fun c a b d f => by rw [f10 c d f]; exact f3 c a, fun j hj => by rw [f99 j hj, f3 99 (by decide)], by rw [g99]; omega, fun j => by rw [f10 24 (by decide) (by decide), f3 24 (by decide)]; exact rdC24 hI⟩
    refine ok_mono (ag_52 hI hH hO hl hn n12 (by omega) y2 af10 (by rw [g99]; omega)) (fun t ht => ⟨ht.1.1, by rw [ht.2, f10 4 (by decide) (by decide)]; exact e43, done t ht.1⟩)
end
/-! the class: what is kept by writing all but (4, 3) -/
def wfa (k j : Nat) : Bool := !(k == 4 && j == 3)
def KWa (K : Sg → Prop) : Prop := (∀ sg k j v, wfa k j = true → K sg → K (up2 sg k j v)) ∧ ∀ sg k n, (k == 4 || k == 99) = false → K sg → K (nw2 sg k n)
theorem afX8_gatherPecks_2 {K : Sg → Prop} (hK : KWa K) {r2 : (Int32 × Int32 × Sg) → Option (Sg)} {v1 : Int32} {v2 : Int32} {sg : Sg} {y : Sg} (hr2 : ∀ z, r2 z = some y → K z.2.2 → K y) (h : fX8_gatherPecks_2 r2 v1 v2 sg = some y) (hk : K sg) : K y := by
  unfold fX8_gatherPecks_2 at h
  rcases p_ite h with h | h
  · skip
    cases h
    exact hk
  · skip
    replace h := p_gin h
    replace h := p_gin h
    obtain ⟨x4, ex4, h⟩ := p_lt h
    replace h := p_gin h
    obtain ⟨x6, ex6, h⟩ := p_lt h
    replace h := p_gin h
    obtain ⟨sg8, esg8, h⟩ := p_lt h
    have qsg8 : K sg8 := by rw [esg8]; exact hK.1 _ _ _ _ rfl hk
    obtain ⟨x9, ex9, h⟩ := p_lt h
    exact hr2 _ h qsg8
theorem aLX8_gatherPecks_2 {K : Sg → Prop} (hK : KWa K) {y : Sg} : ∀ z, LX8_gatherPecks_2 z = some y → K z.2.2 → K y := by
  intro z h
  unfold LX8_gatherPecks_2 at h
  exact loop_ind (fun rec z => fX8_gatherPecks_2 rec z.1 z.2.1 z.2.2) (y := y) (P := fun z => K z.2.2 → K y) (fun rec hrec z h hk => afX8_gatherPecks_2 hK hrec h hk) z h
theorem afX8_gatherPecks {K : Sg → Prop} (hK : KWa K) {v1 : Int32} {sg : Sg} {y : Sg} (h : fX8_gatherPecks v1 sg = some y) (hk : K sg) : K y := by
  unfold fX8_gatherPecks at h
  exact aLX8_gatherPecks_2 hK  _ h hk
theorem afX2_asksForSomebody {K : Sg → Prop} (hK : KWa K) {v1 : Int32} {sg : Sg} {y : Int32 × Sg} (h : fX2_asksForSomebody v1 sg = some y) (hk : K sg) : K y.2 := by
  unfold fX2_asksForSomebody at h
  replace h := p_gin h
  rcases p_ite h with h | h
  · skip
    cases h
    exact hk
  · skip
    replace h := p_gin h
    rcases p_ite h with h | h
    · skip
      cases h
      exact hk
    · skip
      replace h := p_gin h
      rcases p_ite h with h | h
      · skip
        cases h
        exact hk
      · skip
        cases h
        exact hk
theorem afX8_gatherAsking_100 {K : Sg → Prop} (hK : KWa K) {v1 : Int32} {sg : Sg} {y : Sg} (h : fX8_gatherAsking_100 v1 sg = some y) (hk : K sg) : K y := by
  unfold fX8_gatherAsking_100 at h
  replace h := p_gin h
  rcases p_ite h with h | h
  · skip
    replace h := p_gin h
    obtain ⟨x4, ex4, h⟩ := p_lt h
    replace h := p_gin h
    obtain ⟨x6, ex6, h⟩ := p_lt h
    replace h := p_gin h
    obtain ⟨sg8, esg8, h⟩ := p_lt h
    have qsg8 : K sg8 := by rw [esg8]; exact hK.1 _ _ _ _ rfl hk
    cases h
    exact qsg8
  · skip
    cases h
    exact hk
theorem afX8_gatherAsking_41 {K : Sg → Prop} (hK : KWa K) {v1 : Int32} {w0 : Int32} {w1 : Int32} {sg : Sg} {y : Sg} (h : fX8_gatherAsking_41 v1 w0 w1 sg = some y) (hk : K sg) : K y := by
  unfold fX8_gatherAsking_41 at h
  replace h := p_gin h
  obtain ⟨sg2, esg2, h⟩ := p_lt h
  have qsg2 : K sg2 := by rw [esg2]; exact hK.1 _ _ _ _ rfl hk
  replace h := p_gin h
  rcases p_ite h with h | h
  · skip
    cases h
    exact qsg2
  · skip
    replace h := p_gin h
    rcases p_ite h with h | h
    · skip
      replace h := p_gin h
      replace h := p_gin h
      obtain ⟨x15, ex15, h⟩ := p_lt h
      replace h := p_gin h
      obtain ⟨sg17, esg17, h⟩ := p_lt h
      have qsg17 : K sg17 := by rw [esg17]; exact hK.1 _ _ _ _ rfl qsg2
      exact afX8_gatherAsking_100 hK  h qsg17
    · skip
      replace h := p_gin h
      obtain ⟨x8, ex8, h⟩ := p_lt h
      replace h := p_gin h
      obtain ⟨x10, ex10, h⟩ := p_lt h
      replace h := p_gin h
      obtain ⟨sg12, esg12, h⟩ := p_lt h
      have qsg12 : K sg12 := by rw [esg12]; exact hK.1 _ _ _ _ rfl qsg2
      exact afX8_gatherAsking_100 hK  h qsg12
theorem afX8_gatherAsking {K : Sg → Prop} (hK : KWa K) {v1 : Int32} {sg : Sg} {y : Sg} (h : fX8_gatherAsking v1 sg = some y) (hk : K sg) : K y := by
  unfold fX8_gatherAsking at h
  replace h := p_gin h
  obtain ⟨x2, ex2, h⟩ := p_lt h
  obtain ⟨y3, sg4, csg4, h⟩ := p_bnd2 h
  have qsg4 : K sg4 := afX2_asksForSomebody hK  csg4 hk
  rcases p_ite h with h | h
  · skip
    exact afX8_gatherAsking_41 hK  h qsg4
  · skip
    replace h := p_gin h
    obtain ⟨x8, ex8, h⟩ := p_lt h
    replace h := p_gin h
    exact afX8_gatherAsking_41 hK  h qsg4
theorem afX8_gather_133 {K : Sg → Prop} (hK : KWa K) {r133 : (Int32 × Sg) → Option (Sg)} {v1 : Int32} {sg : Sg} {y : Sg} (hr133 : ∀ z, r133 z = some y → K z.2 → K y) (h : fX8_gather_133 r133 v1 sg = some y) (hk : K sg) : K y := by
  unfold fX8_gather_133 at h
  rcases p_ite h with h | h
  · skip
    cases h
    exact hk
  · skip
    obtain ⟨sg2, csg2, h⟩ := p_bnd1 h
    have qsg2 : K sg2 := afX8_gatherPecks hK  csg2 hk
    obtain ⟨sg4, csg4, h⟩ := p_bnd1 h
    have qsg4 : K sg4 := afX8_gatherAsking hK  csg4 qsg2
    obtain ⟨x6, ex6, h⟩ := p_lt h
    exact hr133 _ h qsg4
theorem aLX8_gather_133 {K : Sg → Prop} (hK : KWa K) {y : Sg} : ∀ z, LX8_gather_133 z = some y → K z.2 → K y := by
  intro z h
  unfold LX8_gather_133 at h
  exact loop_ind (fun rec z => fX8_gather_133 rec z.1 z.2) (y := y) (P := fun z => K z.2 → K y) (fun rec hrec z h hk => afX8_gather_133 hK hrec h hk) z h
theorem afX2_has {K : Sg → Prop} (hK : KWa K) {v1 : Int32} {sg : Sg} {y : Int32 × Sg} (h : fX2_has v1 sg = some y) (hk : K sg) : K y.2 := by
  unfold fX2_has at h
  rcases p_ite h with h | h
  · skip
    cases h
    exact hk
  · skip
    rcases p_ite h with h | h
    · skip
      cases h
      exact hk
    · skip
      cases h
      exact hk
theorem afX2_isCounted {K : Sg → Prop} (hK : KWa K) {v1 : Int32} {sg : Sg} {y : Int32 × Sg} (h : fX2_isCounted v1 sg = some y) (hk : K sg) : K y.2 := by
  unfold fX2_isCounted at h
  obtain ⟨y1, sg2, csg2, h⟩ := p_bnd2 h
  have qsg2 : K sg2 := afX2_has hK  csg2 hk
  rcases p_ite h with h | h
  · skip
    cases h
    exact qsg2
  · skip
    replace h := p_gin h
    rcases p_ite h with h | h
    · skip
      replace h := p_gin h
      rcases p_ite h with h | h
      · skip
        cases h
        exact qsg2
      · skip
        cases h
        exact qsg2
    · skip
      cases h
      exact qsg2
theorem afX8_gather_125 {K : Sg → Prop} (hK : KWa K) {r33 : (Int32 × Sg) → Option (Sg)} {v1 : Int32} {sg : Sg} {y : Sg} (hr33 : ∀ z, r33 z = some y → K z.2 → K y) (h : fX8_gather_125 r33 v1 sg = some y) (hk : K sg) : K y := by
  unfold fX8_gather_125 at h
  obtain ⟨x1, ex1, h⟩ := p_lt h
  exact hr33 _ h hk
theorem afX8_gather_33 {K : Sg → Prop} (hK : KWa K) {r33 : (Int32 × Sg) → Option (Sg)} {v1 : Int32} {sg : Sg} {y : Sg} (hr33 : ∀ z, r33 z = some y → K z.2 → K y) (h : fX8_gather_33 r33 v1 sg = some y) (hk : K sg) : K y := by
  unfold fX8_gather_33 at h
  rcases p_ite h with h | h
  · skip
    exact aLX8_gather_133 hK  _ h hk
  · skip
    replace h := p_gin h
    obtain ⟨sg3, esg3, h⟩ := p_lt h
    have qsg3 : K sg3 := by rw [esg3]; exact hK.1 _ _ _ _ rfl hk
    obtain ⟨y4, sg5, csg5, h⟩ := p_bnd2 h
    have qsg5 : K sg5 := afX2_isCounted hK  csg5 qsg3
    rcases p_ite h with h | h
    · skip
      exact afX8_gather_125 hK hr33 h qsg5
    · skip
      obtain ⟨x8, ex8, h⟩ := p_lt h
      replace h := p_gin h
      obtain ⟨sg10, esg10, h⟩ := p_lt h
      have qsg10 : K sg10 := by rw [esg10]; exact hK.1 _ _ _ _ rfl qsg5
      replace h := p_gin h
      obtain ⟨sg12, esg12, h⟩ := p_lt h
      have qsg12 : K sg12 := by rw [esg12]; exact hK.1 _ _ _ _ rfl qsg10
      replace h := p_gin h
      obtain ⟨x14, ex14, h⟩ := p_lt h
      replace h := p_gin h
      obtain ⟨sg16, esg16, h⟩ := p_lt h
      have qsg16 : K sg16 := by rw [esg16]; exact hK.1 _ _ _ _ rfl qsg12
      replace h := p_gin h
      obtain ⟨sg18, esg18, h⟩ := p_lt h
      have qsg18 : K sg18 := by rw [esg18]; exact hK.1 _ _ _ _ rfl qsg16
      replace h := p_gin h
      obtain ⟨sg20, esg20, h⟩ := p_lt h
      have qsg20 : K sg20 := by rw [esg20]; exact hK.1 _ _ _ _ rfl qsg18
      obtain ⟨x21, ex21, h⟩ := p_lt h
      obtain ⟨sg22, esg22, h⟩ := p_lt h
      have qsg22 : K sg22 := by rw [esg22]; exact hK.1 _ _ _ _ rfl qsg20
      exact afX8_gather_125 hK hr33 h qsg22
theorem aLX8_gather_33 {K : Sg → Prop} (hK : KWa K) {y : Sg} : ∀ z, LX8_gather_33 z = some y → K z.2 → K y := by
  intro z h
  unfold LX8_gather_33 at h
  exact loop_ind (fun rec z => fX8_gather_33 rec z.1 z.2) (y := y) (P := fun z => K z.2 → K y) (fun rec hrec z h hk => afX8_gather_33 hK hrec h hk) z h
theorem afX8_gather {K : Sg → Prop} (hK : KWa K) {sg : Sg} {y : Sg} (h : fX8_gather sg = some y) (hk : K sg) : K y := by
  unfold fX8_gather at h
  rcases p_ite h with h | h
  · skip
    cases h
    exact hk
  · skip
    obtain ⟨x2, ex2, h⟩ := p_lt h
    obtain ⟨sg3, esg3, h⟩ := p_lt h
    have qsg3 : K sg3 := by rw [esg3]; exact hK.1 _ _ _ _ rfl hk
    obtain ⟨sg4, esg4, h⟩ := p_lt h
    have qsg4 : K sg4 := by rw [esg4]; exact hK.1 _ _ _ _ rfl qsg3
    exact aLX8_gather_33 hK  _ h qsg4
theorem afX4_spreadUnion_c28_7 {K : Sg → Prop} (hK : KWa K) {r7 : (Int32 × Int32 × Int32 × Sg) → Option (Sg)} {v2 : Int32} {v3 : Int32} {v4 : Int32} {sg : Sg} {y : Sg} (hr7 : ∀ z, r7 z = some y → K z.2.2.2 → K y) (h : fX4_spreadUnion_c28_7 r7 v2 v3 v4 sg = some y) (hk : K sg) : K y := by
  unfold fX4_spreadUnion_c28_7 at h
  rcases p_ite h with h | h
  · skip
    cases h
    exact hk
  · skip
    replace h := p_gin h
    obtain ⟨x3, ex3, h⟩ := p_lt h
    replace h := p_gin h
    obtain ⟨sg5, esg5, h⟩ := p_lt h
    have qsg5 : K sg5 := by rw [esg5]; exact hK.1 _ _ _ _ rfl hk
    obtain ⟨x6, ex6, h⟩ := p_lt h
    exact hr7 _ h qsg5
theorem aLX4_spreadUnion_c28_7 {K : Sg → Prop} (hK : KWa K) {y : Sg} : ∀ z, LX4_spreadUnion_c28_7 z = some y → K z.2.2.2 → K y := by
  intro z h
  unfold LX4_spreadUnion_c28_7 at h
  exact loop_ind (fun rec z => fX4_spreadUnion_c28_7 rec z.1 z.2.1 z.2.2.1 z.2.2.2) (y := y) (P := fun z => K z.2.2.2 → K y) (fun rec hrec z h hk => afX4_spreadUnion_c28_7 hK hrec h hk) z h
theorem afX4_spreadUnion_c28 {K : Sg → Prop} (hK : KWa K) {v1 : Int32} {v2 : Int32} {sg : Sg} {y : Sg} (h : fX4_spreadUnion_c28 v1 v2 sg = some y) (hk : K sg) : K y := by
  unfold fX4_spreadUnion_c28 at h
  obtain ⟨x1, ex1, h⟩ := p_lt h
  exact aLX4_spreadUnion_c28_7 hK  _ h hk
theorem afX4_spreadUnion_c30_7 {K : Sg → Prop} (hK : KWa K) {r7 : (Int32 × Int32 × Int32 × Sg) → Option (Sg)} {v2 : Int32} {v3 : Int32} {v4 : Int32} {sg : Sg} {y : Sg} (hr7 : ∀ z, r7 z = some y → K z.2.2.2 → K y) (h : fX4_spreadUnion_c30_7 r7 v2 v3 v4 sg = some y) (hk : K sg) : K y := by
  unfold fX4_spreadUnion_c30_7 at h
  rcases p_ite h with h | h
  · skip
    cases h
    exact hk
  · skip
    replace h := p_gin h
    obtain ⟨x3, ex3, h⟩ := p_lt h
    replace h := p_gin h
    obtain ⟨sg5, esg5, h⟩ := p_lt h
    have qsg5 : K sg5 := by rw [esg5]; exact hK.1 _ _ _ _ rfl hk
    obtain ⟨x6, ex6, h⟩ := p_lt h
    exact hr7 _ h qsg5
theorem aLX4_spreadUnion_c30_7 {K : Sg → Prop} (hK : KWa K) {y : Sg} : ∀ z, LX4_spreadUnion_c30_7 z = some y → K z.2.2.2 → K y := by
  intro z h
  unfold LX4_spreadUnion_c30_7 at h
  exact loop_ind (fun rec z => fX4_spreadUnion_c30_7 rec z.1 z.2.1 z.2.2.1 z.2.2.2) (y := y) (P := fun z => K z.2.2.2 → K y) (fun rec hrec z h hk => afX4_spreadUnion_c30_7 hK hrec h hk) z h
theorem afX4_spreadUnion_c30 {K : Sg → Prop} (hK : KWa K) {v1 : Int32} {v2 : Int32} {sg : Sg} {y : Sg} (h : fX4_spreadUnion_c30 v1 v2 sg = some y) (hk : K sg) : K y := by
  unfold fX4_spreadUnion_c30 at h
  obtain ⟨x1, ex1, h⟩ := p_lt h
  exact aLX4_spreadUnion_c30_7 hK  _ h hk
theorem afX8_peckOf {K : Sg → Prop} (hK : KWa K) {v1 : Int32} {v2 : Int32} {sg : Sg} {y : Int32 × Sg} (h : fX8_peckOf v1 v2 sg = some y) (hk : K sg) : K y.2 := by
  unfold fX8_peckOf at h
  obtain ⟨x1, ex1, h⟩ := p_lt h
  replace h := p_gin h
  cases h
  exact hk
theorem afX4_spreadSum_c26_8 {K : Sg → Prop} (hK : KWa K) {r8 : (Int32 × Int32 × Int32 × Int32 × Sg) → Option (Sg)} {v1 : Int32} {v3 : Int32} {v4 : Int32} {v5 : Int32} {sg : Sg} {y : Sg} (hr8 : ∀ z, r8 z = some y → K z.2.2.2.2 → K y) (h : fX4_spreadSum_c26_8 r8 v1 v3 v4 v5 sg = some y) (hk : K sg) : K y := by
  unfold fX4_spreadSum_c26_8 at h
  rcases p_ite h with h | h
  · skip
    cases h
    exact hk
  · skip
    obtain ⟨x2, ex2, h⟩ := p_lt h
    replace h := p_gin h
    obtain ⟨x4, ex4, h⟩ := p_lt h
    replace h := p_gin h
    obtain ⟨sg6, esg6, h⟩ := p_lt h
    have qsg6 : K sg6 := by rw [esg6]; exact hK.1 _ _ _ _ rfl hk
    obtain ⟨x7, ex7, h⟩ := p_lt h
    exact hr8 _ h qsg6
theorem aLX4_spreadSum_c26_8 {K : Sg → Prop} (hK : KWa K) {y : Sg} : ∀ z, LX4_spreadSum_c26_8 z = some y → K z.2.2.2.2 → K y := by
  intro z h
  unfold LX4_spreadSum_c26_8 at h
  exact loop_ind (fun rec z => fX4_spreadSum_c26_8 rec z.1 z.2.1 z.2.2.1 z.2.2.2.1 z.2.2.2.2) (y := y) (P := fun z => K z.2.2.2.2 → K y) (fun rec hrec z h hk => afX4_spreadSum_c26_8 hK hrec h hk) z h
theorem afX4_spreadSum_c26 {K : Sg → Prop} (hK : KWa K) {v1 : Int32} {v2 : Int32} {v3 : Int32} {sg : Sg} {y : Sg} (h : fX4_spreadSum_c26 v1 v2 v3 sg = some y) (hk : K sg) : K y := by
  unfold fX4_spreadSum_c26 at h
  obtain ⟨x1, ex1, h⟩ := p_lt h
  exact aLX4_spreadSum_c26_8 hK  _ h hk
theorem afX4_spreadSum_c25_8 {K : Sg → Prop} (hK : KWa K) {r8 : (Int32 × Int32 × Int32 × Int32 × Sg) → Option (Sg)} {v1 : Int32} {v3 : Int32} {v4 : Int32} {v5 : Int32} {sg : Sg} {y : Sg} (hr8 : ∀ z, r8 z = some y → K z.2.2.2.2 → K y) (h : fX4_spreadSum_c25_8 r8 v1 v3 v4 v5 sg = some y) (hk : K sg) : K y := by
  unfold fX4_spreadSum_c25_8 at h
  rcases p_ite h with h | h
  · skip
    cases h
    exact hk
  · skip
    obtain ⟨x2, ex2, h⟩ := p_lt h
    replace h := p_gin h
    obtain ⟨x4, ex4, h⟩ := p_lt h
    replace h := p_gin h
    obtain ⟨sg6, esg6, h⟩ := p_lt h
    have qsg6 : K sg6 := by rw [esg6]; exact hK.1 _ _ _ _ rfl hk
    obtain ⟨x7, ex7, h⟩ := p_lt h
    exact hr8 _ h qsg6
theorem aLX4_spreadSum_c25_8 {K : Sg → Prop} (hK : KWa K) {y : Sg} : ∀ z, LX4_spreadSum_c25_8 z = some y → K z.2.2.2.2 → K y := by
  intro z h
  unfold LX4_spreadSum_c25_8 at h
  exact loop_ind (fun rec z => fX4_spreadSum_c25_8 rec z.1 z.2.1 z.2.2.1 z.2.2.2.1 z.2.2.2.2) (y := y) (P := fun z => K z.2.2.2.2 → K y) (fun rec hrec z h hk => afX4_spreadSum_c25_8 hK hrec h hk) z h
theorem afX4_spreadSum_c25 {K : Sg → Prop} (hK : KWa K) {v1 : Int32} {v2 : Int32} {v3 : Int32} {sg : Sg} {y : Sg} (h : fX4_spreadSum_c25 v1 v2 v3 sg = some y) (hk : K sg) : K y := by
  unfold fX4_spreadSum_c25 at h
  obtain ⟨x1, ex1, h⟩ := p_lt h
  exact aLX4_spreadSum_c25_8 hK  _ h hk
theorem afX4_prepare_130 {K : Sg → Prop} (hK : KWa K) {r35 : (Int32 × Sg) → Option (Sg)} {r130 : (Int32 × Int32 × Int32 × Int32 × Sg) → Option (Sg)} {v1 : Int32} {v2 : Int32} {v3 : Int32} {v4 : Int32} {sg : Sg} {y : Sg} (hr35 : ∀ z, r35 z = some y → K z.2 → K y) (hr130 : ∀ z, r130 z = some y → K z.2.2.2.2 → K y) (h : fX4_prepare_130 r35 r130 v1 v2 v3 v4 sg = some y) (hk : K sg) : K y := by
  unfold fX4_prepare_130 at h
  rcases p_ite h with h | h
  · skip
    obtain ⟨x2, ex2, h⟩ := p_lt h
    exact hr35 _ h hk
  · skip
    rcases p_ite h with h | h
    · skip
      obtain ⟨y4, sg5, csg5, h⟩ := p_bnd2 h
      have qsg5 : K sg5 := afX8_peckOf hK  csg5 hk
      obtain ⟨sg7, csg7, h⟩ := p_bnd1 h
      have qsg7 : K sg7 := afX4_spreadSum_c26 hK  csg7 qsg5
      obtain ⟨x9, ex9, h⟩ := p_lt h
      exact hr130 _ h qsg7
    · skip
      obtain ⟨y10, sg11, csg11, h⟩ := p_bnd2 h
      have qsg11 : K sg11 := afX8_peckOf hK  csg11 hk
      obtain ⟨sg13, csg13, h⟩ := p_bnd1 h
      have qsg13 : K sg13 := afX4_spreadSum_c25 hK  csg13 qsg11
      obtain ⟨x15, ex15, h⟩ := p_lt h
      exact hr130 _ h qsg13
theorem aLX4_prepare_130 {K : Sg → Prop} (hK : KWa K) {r35 : (Int32 × Sg) → Option (Sg)} {y : Sg} (hr35 : ∀ z, r35 z = some y → K z.2 → K y) : ∀ z, LX4_prepare_130 r35 z = some y → K z.2.2.2.2 → K y := by
  intro z h
  unfold LX4_prepare_130 at h
  exact loop_ind (fun rec z => fX4_prepare_130 r35 rec z.1 z.2.1 z.2.2.1 z.2.2.2.1 z.2.2.2.2) (y := y) (P := fun z => K z.2.2.2.2 → K y) (fun rec hrec z h hk => afX4_prepare_130 hK hr35 hrec h hk) z h
theorem afX4_spreadUnion_c29_7 {K : Sg → Prop} (hK : KWa K) {r7 : (Int32 × Int32 × Int32 × Sg) → Option (Sg)} {v2 : Int32} {v3 : Int32} {v4 : Int32} {sg : Sg} {y : Sg} (hr7 : ∀ z, r7 z = some y → K z.2.2.2 → K y) (h : fX4_spreadUnion_c29_7 r7 v2 v3 v4 sg = some y) (hk : K sg) : K y := by
  unfold fX4_spreadUnion_c29_7 at h
  rcases p_ite h with h | h
  · skip
    cases h
    exact hk
  · skip
    replace h := p_gin h
    obtain ⟨x3, ex3, h⟩ := p_lt h
    replace h := p_gin h
    obtain ⟨sg5, esg5, h⟩ := p_lt h
    have qsg5 : K sg5 := by rw [esg5]; exact hK.1 _ _ _ _ rfl hk
    obtain ⟨x6, ex6, h⟩ := p_lt h
    exact hr7 _ h qsg5
theorem aLX4_spreadUnion_c29_7 {K : Sg → Prop} (hK : KWa K) {y : Sg} : ∀ z, LX4_spreadUnion_c29_7 z = some y → K z.2.2.2 → K y := by
  intro z h
  unfold LX4_spreadUnion_c29_7 at h
  exact loop_ind (fun rec z => fX4_spreadUnion_c29_7 rec z.1 z.2.1 z.2.2.1 z.2.2.2) (y := y) (P := fun z => K z.2.2.2 → K y) (fun rec hrec z h hk => afX4_spreadUnion_c29_7 hK hrec h hk) z h
theorem afX4_spreadUnion_c29 {K : Sg → Prop} (hK : KWa K) {v1 : Int32} {v2 : Int32} {sg : Sg} {y : Sg} (h : fX4_spreadUnion_c29 v1 v2 sg = some y) (hk : K sg) : K y := by
  unfold fX4_spreadUnion_c29 at h
  obtain ⟨x1, ex1, h⟩ := p_lt h
  exact aLX4_spreadUnion_c29_7 hK  _ h hk
theorem afX4_spreadUnion_c27_7 {K : Sg → Prop} (hK : KWa K) {r7 : (Int32 × Int32 × Int32 × Sg) → Option (Sg)} {v2 : Int32} {v3 : Int32} {v4 : Int32} {sg : Sg} {y : Sg} (hr7 : ∀ z, r7 z = some y → K z.2.2.2 → K y) (h : fX4_spreadUnion_c27_7 r7 v2 v3 v4 sg = some y) (hk : K sg) : K y := by
  unfold fX4_spreadUnion_c27_7 at h
  rcases p_ite h with h | h
  · skip
    cases h
    exact hk
  · skip
    replace h := p_gin h
    obtain ⟨x3, ex3, h⟩ := p_lt h
    replace h := p_gin h
    obtain ⟨sg5, esg5, h⟩ := p_lt h
    have qsg5 : K sg5 := by rw [esg5]; exact hK.1 _ _ _ _ rfl hk
    obtain ⟨x6, ex6, h⟩ := p_lt h
    exact hr7 _ h qsg5
theorem aLX4_spreadUnion_c27_7 {K : Sg → Prop} (hK : KWa K) {y : Sg} : ∀ z, LX4_spreadUnion_c27_7 z = some y → K z.2.2.2 → K y := by
  intro z h
  unfold LX4_spreadUnion_c27_7 at h
  exact loop_ind (fun rec z => fX4_spreadUnion_c27_7 rec z.1 z.2.1 z.2.2.1 z.2.2.2) (y := y) (P := fun z => K z.2.2.2 → K y) (fun rec hrec z h hk => afX4_spreadUnion_c27_7 hK hrec h hk) z h
theorem afX4_spreadUnion_c27 {K : Sg → Prop} (hK : KWa K) {v1 : Int32} {v2 : Int32} {sg : Sg} {y : Sg} (h : fX4_spreadUnion_c27 v1 v2 sg = some y) (hk : K sg) : K y := by
  unfold fX4_spreadUnion_c27 at h
  obtain ⟨x1, ex1, h⟩ := p_lt h
  exact aLX4_spreadUnion_c27_7 hK  _ h hk
theorem afX4_prepare_70 {K : Sg → Prop} (hK : KWa K) {r35 : (Int32 × Sg) → Option (Sg)} {v1 : Int32} {v2 : Int32} {w0 : Int32} {sg : Sg} {y : Sg} (hr35 : ∀ z, r35 z = some y → K z.2 → K y) (h : fX4_prepare_70 r35 v1 v2 w0 sg = some y) (hk : K sg) : K y := by
  unfold fX4_prepare_70 at h
  rcases p_ite h with h | h
  · skip
    replace h := p_gin h
    obtain ⟨sg3, csg3, h⟩ := p_bnd1 h
    have qsg3 : K sg3 := afX4_spreadUnion_c28 hK  csg3 hk
    rcases p_ite h with h | h
    · skip
      replace h := p_gin h
      obtain ⟨sg7, csg7, h⟩ := p_bnd1 h
      have qsg7 : K sg7 := afX4_spreadUnion_c30 hK  csg7 qsg3
      exact aLX4_prepare_130 hK hr35 _ h qsg7
    · skip
      replace h := p_gin h
      obtain ⟨sg10, csg10, h⟩ := p_bnd1 h
      have qsg10 : K sg10 := afX4_spreadUnion_c29 hK  csg10 qsg3
      exact aLX4_prepare_130 hK hr35 _ h qsg10
  · skip
    replace h := p_gin h
    obtain ⟨sg13, csg13, h⟩ := p_bnd1 h
    have qsg13 : K sg13 := afX4_spreadUnion_c27 hK  csg13 hk
    rcases p_ite h with h | h
    · skip
      replace h := p_gin h
      obtain ⟨sg17, csg17, h⟩ := p_bnd1 h
      have qsg17 : K sg17 := afX4_spreadUnion_c30 hK  csg17 qsg13
      exact aLX4_prepare_130 hK hr35 _ h qsg17
    · skip
      replace h := p_gin h
      obtain ⟨sg20, csg20, h⟩ := p_bnd1 h
      have qsg20 : K sg20 := afX4_spreadUnion_c29 hK  csg20 qsg13
      exact aLX4_prepare_130 hK hr35 _ h qsg20
theorem afX4_prepare_57 {K : Sg → Prop} (hK : KWa K) {r35 : (Int32 × Sg) → Option (Sg)} {v1 : Int32} {w0 : Int32} {sg : Sg} {y : Sg} (hr35 : ∀ z, r35 z = some y → K z.2 → K y) (h : fX4_prepare_57 r35 v1 w0 sg = some y) (hk : K sg) : K y := by
  unfold fX4_prepare_57 at h
  rcases p_ite h with h | h
  · skip
    exact afX4_prepare_70 hK hr35 h hk
  · skip
    exact afX4_prepare_70 hK hr35 h hk
theorem afX4_prepare_35 {K : Sg → Prop} (hK : KWa K) {r35 : (Int32 × Sg) → Option (Sg)} {v1 : Int32} {sg : Sg} {y : Sg} (hr35 : ∀ z, r35 z = some y → K z.2 → K y) (h : fX4_prepare_35 r35 v1 sg = some y) (hk : K sg) : K y := by
  unfold fX4_prepare_35 at h
  rcases p_ite h with h | h
  · skip
    cases h
    exact hk
  · skip
    rcases p_ite h with h | h
    · skip
      exact afX4_prepare_57 hK hr35 h hk
    · skip
      exact afX4_prepare_57 hK hr35 h hk
theorem aLX4_prepare_35 {K : Sg → Prop} (hK : KWa K) {y : Sg} : ∀ z, LX4_prepare_35 z = some y → K z.2 → K y := by
  intro z h
  unfold LX4_prepare_35 at h
  exact loop_ind (fun rec z => fX4_prepare_35 rec z.1 z.2) (y := y) (P := fun z => K z.2 → K y) (fun rec hrec z h hk => afX4_prepare_35 hK hrec h hk) z h
theorem afX4_prepare {K : Sg → Prop} (hK : KWa K) {sg : Sg} {y : Sg} (h : fX4_prepare sg = some y) (hk : K sg) : K y := by
  unfold fX4_prepare at h
  obtain ⟨sg1, csg1, h⟩ := p_bnd1 h
  have qsg1 : K sg1 := afX8_gather hK  csg1 hk
  rcases p_ite h with h | h
  · skip
    cases h
    exact qsg1
  · skip
    obtain ⟨x4, ex4, h⟩ := p_lt h
    obtain ⟨sg5, esg5, h⟩ := p_lt h
    have qsg5 : K sg5 := by rw [esg5]; exact hK.1 _ _ _ _ rfl qsg1
    exact aLX4_prepare_35 hK  _ h qsg5
theorem afX8_all {K : Sg → Prop} (hK : KWa K) {sg : Sg} {y : Int32 × Sg} (h : fX8_all sg = some y) (hk : K sg) : K y.2 := by
  unfold fX8_all at h
  cases h
  exact hk
theorem afX4_pairsOf {K : Sg → Prop} (hK : KWa K) {v1 : Int32} {sg : Sg} {y : Int32 × Sg} (h : fX4_pairsOf v1 sg = some y) (hk : K sg) : K y.2 := by
  unfold fX4_pairsOf at h
  obtain ⟨x1, ex1, h⟩ := p_lt h
  replace h := p_gin h
  obtain ⟨x3, ex3, h⟩ := p_lt h
  replace h := p_gin h
  cases h
  exact hk
theorem afX4_mustBeBelow {K : Sg → Prop} (hK : KWa K) {v1 : Int32} {sg : Sg} {y : Int32 × Sg} (h : fX4_mustBeBelow v1 sg = some y) (hk : K sg) : K y.2 := by
  unfold fX4_mustBeBelow at h
  obtain ⟨x1, ex1, h⟩ := p_lt h
  replace h := p_gin h
  obtain ⟨x3, ex3, h⟩ := p_lt h
  replace h := p_gin h
  cases h
  exact hk
theorem afX9_choices_42 {K : Sg → Prop} (hK : KWa K) {v2 : Int32} {w0 : Int32} {sg : Sg} {y : Int32 × Sg} (h : fX9_choices_42 v2 w0 sg = some y) (hk : K sg) : K y.2 := by
  unfold fX9_choices_42 at h
  obtain ⟨y1, sg2, csg2, h⟩ := p_bnd2 h
  have qsg2 : K sg2 := afX4_mustBeBelow hK  csg2 hk
  cases h
  exact qsg2
theorem afX9_choices {K : Sg → Prop} (hK : KWa K) {v1 : Int32} {sg : Sg} {y : Int32 × Sg} (h : fX9_choices v1 sg = some y) (hk : K sg) : K y.2 := by
  unfold fX9_choices at h
  obtain ⟨y1, sg2, csg2, h⟩ := p_bnd2 h
  have qsg2 : K sg2 := afX8_all hK  csg2 hk
  obtain ⟨x4, ex4, h⟩ := p_lt h
  obtain ⟨y5, sg6, csg6, h⟩ := p_bnd2 h
  have qsg6 : K sg6 := afX4_pairsOf hK  csg6 qsg2
  obtain ⟨x8, ex8, h⟩ := p_lt h
  rcases p_ite h with h | h
  · skip
    rcases p_ite h with h | h
    · skip
      exact afX9_choices_42 hK  h qsg6
    · skip
      exact afX9_choices_42 hK  h qsg6
  · skip
    cases h
    exact qsg6
theorem afX9_weighRest_111 {K : Sg → Prop} (hK : KWa K) {v1 : Int32} {v3 : Int32} {v4 : Int32} {sg : Sg} {y : Sg} (h : fX9_weighRest_111 v1 v3 v4 sg = some y) (hk : K sg) : K y := by
  unfold fX9_weighRest_111 at h
  replace h := p_gin h
  obtain ⟨sg2, esg2, h⟩ := p_lt h
  have qsg2 : K sg2 := by rw [esg2]; exact hK.1 _ _ _ _ rfl hk
  replace h := p_gin h
  obtain ⟨sg4, esg4, h⟩ := p_lt h
  have qsg4 : K sg4 := by rw [esg4]; exact hK.1 _ _ _ _ rfl qsg2
  cases h
  exact qsg4
theorem afX4_costBelow {K : Sg → Prop} (hK : KWa K) {v1 : Int32} {v2 : Int32} {sg : Sg} {y : Int32 × Sg} (h : fX4_costBelow v1 v2 sg = some y) (hk : K sg) : K y.2 := by
  unfold fX4_costBelow at h
  obtain ⟨x1, ex1, h⟩ := p_lt h
  replace h := p_gin h
  obtain ⟨x3, ex3, h⟩ := p_lt h
  replace h := p_gin h
  cases h
  exact hk
theorem afX9_weighRest_99 {K : Sg → Prop} (hK : KWa K) {r12 : (Int32 × Int32 × Int32 × Int32 × Int32 × Sg) → Option (Sg)} {v1 : Int32} {v3 : Int32} {v4 : Int32} {v5 : Int32} {v6 : Int32} {sg : Sg} {y : Sg} (hr12 : ∀ z, r12 z = some y → K z.2.2.2.2.2 → K y) (h : fX9_weighRest_99 r12 v1 v3 v4 v5 v6 sg = some y) (hk : K sg) : K y := by
  unfold fX9_weighRest_99 at h
  obtain ⟨x1, ex1, h⟩ := p_lt h
  obtain ⟨x2, ex2, h⟩ := p_lt h
  exact hr12 _ h hk
theorem afX9_weighRest_12 {K : Sg → Prop} (hK : KWa K) {r12 : (Int32 × Int32 × Int32 × Int32 × Int32 × Sg) → Option (Sg)} {v1 : Int32} {v3 : Int32} {v4 : Int32} {v5 : Int32} {v6 : Int32} {sg : Sg} {y : Sg} (hr12 : ∀ z, r12 z = some y → K z.2.2.2.2.2 → K y) (h : fX9_weighRest_12 r12 v1 v3 v4 v5 v6 sg = some y) (hk : K sg) : K y := by
  unfold fX9_weighRest_12 at h
  rcases p_ite h with h | h
  · skip
    exact afX9_weighRest_111 hK  h hk
  · skip
    rcases p_ite h with h | h
    · skip
      exact afX9_weighRest_111 hK  h hk
    · skip
      rcases p_ite h with h | h
      · skip
        obtain ⟨x4, ex4, h⟩ := p_lt h
        replace h := p_gin h
        obtain ⟨y6, sg7, csg7, h⟩ := p_bnd2 h
        have qsg7 : K sg7 := afX4_costBelow hK  csg7 hk
        obtain ⟨x9, ex9, h⟩ := p_lt h
        rcases p_ite h with h | h
        · skip
          rcases p_ite h with h | h
          · skip
            replace h := p_gin h
            obtain ⟨x13, ex13, h⟩ := p_lt h
            exact afX9_weighRest_99 hK hr12 h qsg7
          · skip
            exact afX9_weighRest_99 hK hr12 h qsg7
        · skip
          replace h := p_gin h
          obtain ⟨x15, ex15, h⟩ := p_lt h
          exact afX9_weighRest_99 hK hr12 h qsg7
      · skip
        exact afX9_weighRest_99 hK hr12 h hk
theorem aLX9_weighRest_12 {K : Sg → Prop} (hK : KWa K) {y : Sg} : ∀ z, LX9_weighRest_12 z = some y → K z.2.2.2.2.2 → K y := by
  intro z h
  unfold LX9_weighRest_12 at h
  exact loop_ind (fun rec z => fX9_weighRest_12 rec z.1 z.2.1 z.2.2.1 z.2.2.2.1 z.2.2.2.2.1 z.2.2.2.2.2) (y := y) (P := fun z => K z.2.2.2.2.2 → K y) (fun rec hrec z h hk => afX9_weighRest_12 hK hrec h hk) z h
theorem afX9_weighRest {K : Sg → Prop} (hK : KWa K) {v1 : Int32} {v2 : Int32} {sg : Sg} {y : Sg} (h : fX9_weighRest v1 v2 sg = some y) (hk : K sg) : K y := by
  unfold fX9_weighRest at h
  exact aLX9_weighRest_12 hK  _ h hk
theorem afX9_solve_86 {K : Sg → Prop} (hK : KWa K) {r86 : (Int32 × Sg) → Option (Sg)} {v2 : Int32} {sg : Sg} {y : Sg} (hr86 : ∀ z, r86 z = some y → K z.2 → K y) (h : fX9_solve_86 r86 v2 sg = some y) (hk : K sg) : K y := by
  unfold fX9_solve_86 at h
  rcases p_ite h with h | h
  · skip
    cases h
    exact hk
  · skip
    obtain ⟨y2, sg3, csg3, h⟩ := p_bnd2 h
    have qsg3 : K sg3 := afX9_choices hK  csg3 hk
    obtain ⟨sg5, csg5, h⟩ := p_bnd1 h
    have qsg5 : K sg5 := afX9_weighRest hK  csg5 qsg3
    obtain ⟨x7, ex7, h⟩ := p_lt h
    exact hr86 _ h qsg5
theorem aLX9_solve_86 {K : Sg → Prop} (hK : KWa K) {y : Sg} : ∀ z, LX9_solve_86 z = some y → K z.2 → K y := by
  intro z h
  unfold LX9_solve_86 at h
  exact loop_ind (fun rec z => fX9_solve_86 rec z.1 z.2) (y := y) (P := fun z => K z.2 → K y) (fun rec hrec z h hk => afX9_solve_86 hK hrec h hk) z h
theorem afX9_solve_68 {K : Sg → Prop} (hK : KWa K) {v1 : Int32} {sg : Sg} {y : Sg} (h : fX9_solve_68 v1 sg = some y) (hk : K sg) : K y := by
  unfold fX9_solve_68 at h
  replace h := p_gin h
  obtain ⟨sg2, esg2, h⟩ := p_lt h
  have qsg2 : K sg2 := by rw [esg2]; exact hK.1 _ _ _ _ rfl hk
  replace h := p_gin h
  obtain ⟨sg4, esg4, h⟩ := p_lt h
  have qsg4 : K sg4 := by rw [esg4]; exact hK.1 _ _ _ _ rfl qsg2
  obtain ⟨x5, ex5, h⟩ := p_lt h
  exact aLX9_solve_86 hK  _ h qsg4
theorem afX9_solve {K : Sg → Prop} (hK : KWa K) {sg : Sg} {y : Sg} (h : fX9_solve sg = some y) (hk : K sg) : K y := by
  unfold fX9_solve at h
  obtain ⟨sg1, csg1, h⟩ := p_bnd1 h
  have qsg1 : K sg1 := afX4_prepare hK  csg1 hk
  rcases p_ite h with h | h
  · skip
    cases h
    exact qsg1
  · skip
    obtain ⟨x4, ex4, h⟩ := p_lt h
    obtain ⟨sg5, esg5, h⟩ := p_lt h
    have qsg5 : K sg5 := by rw [esg5]; exact hK.1 _ _ _ _ rfl qsg1
    obtain ⟨y6, sg7, csg7, h⟩ := p_bnd2 h
    have qsg7 : K sg7 := afX8_all hK  csg7 qsg5
    rcases p_ite h with h | h
    · skip
      exact afX9_solve_68 hK  h qsg7
    · skip
      obtain ⟨x10, ex10, h⟩ := p_lt h
      replace h := p_gnw h
      obtain ⟨sg12, esg12, h⟩ := p_lt h
      have qsg12 : K sg12 := by rw [esg12]; exact hK.2 _ _ _ rfl qsg7
      obtain ⟨x14, ex14, h⟩ := p_lt h
      replace h := p_gnw h
      obtain ⟨sg16, esg16, h⟩ := p_lt h
      have qsg16 : K sg16 := by rw [esg16]; exact hK.2 _ _ _ rfl qsg12
      exact afX9_solve_68 hK  h qsg16
theorem afX9_loosen_123 {K : Sg → Prop} (hK : KWa K) {r37 : (Int32 × Int32 × Sg) → Option (Sg)} {v1 : Int32} {v2 : Int32} {v3 : Int32} {sg : Sg} {y : Sg} (hr37 : ∀ z, r37 z = some y → K z.2.2 → K y) (h : fX9_loosen_123 r37 v1 v2 v3 sg = some y) (hk : K sg) : K y := by
  unfold fX9_loosen_123 at h
  replace h := p_gin h
  obtain ⟨sg2, esg2, h⟩ := p_lt h
  have qsg2 : K sg2 := by rw [esg2]; exact hK.1 _ _ _ _ rfl hk
  obtain ⟨x3, ex3, h⟩ := p_lt h
  exact hr37 _ h qsg2
theorem afX9_loosen_111 {K : Sg → Prop} (hK : KWa K) {r37 : (Int32 × Int32 × Sg) → Option (Sg)} {r54 : (Int32 × Int32 × Int32 × Int32 × Int32 × Sg) → Option (Sg)} {v1 : Int32} {v2 : Int32} {v3 : Int32} {v4 : Int32} {v5 : Int32} {sg : Sg} {y : Sg} (hr37 : ∀ z, r37 z = some y → K z.2.2 → K y) (hr54 : ∀ z, r54 z = some y → K z.2.2.2.2.2 → K y) (h : fX9_loosen_111 r37 r54 v1 v2 v3 v4 v5 sg = some y) (hk : K sg) : K y := by
  unfold fX9_loosen_111 at h
  obtain ⟨x1, ex1, h⟩ := p_lt h
  obtain ⟨x2, ex2, h⟩ := p_lt h
  exact hr54 _ h hk
theorem afX9_loosen_110 {K : Sg → Prop} (hK : KWa K) {r37 : (Int32 × Int32 × Sg) → Option (Sg)} {r54 : (Int32 × Int32 × Int32 × Int32 × Int32 × Sg) → Option (Sg)} {v1 : Int32} {v2 : Int32} {v4 : Int32} {v5 : Int32} {w0 : Int32} {sg : Sg} {y : Sg} (hr37 : ∀ z, r37 z = some y → K z.2.2 → K y) (hr54 : ∀ z, r54 z = some y → K z.2.2.2.2.2 → K y) (h : fX9_loosen_110 r37 r54 v1 v2 v4 v5 w0 sg = some y) (hk : K sg) : K y := by
  unfold fX9_loosen_110 at h
  exact afX9_loosen_111 hK hr37 hr54 h hk
theorem afX9_loosen_54 {K : Sg → Prop} (hK : KWa K) {r37 : (Int32 × Int32 × Sg) → Option (Sg)} {r54 : (Int32 × Int32 × Int32 × Int32 × Int32 × Sg) → Option (Sg)} {v1 : Int32} {v2 : Int32} {v3 : Int32} {v4 : Int32} {v5 : Int32} {sg : Sg} {y : Sg} (hr37 : ∀ z, r37 z = some y → K z.2.2 → K y) (hr54 : ∀ z, r54 z = some y → K z.2.2.2.2.2 → K y) (h : fX9_loosen_54 r37 r54 v1 v2 v3 v4 v5 sg = some y) (hk : K sg) : K y := by
  unfold fX9_loosen_54 at h
  rcases p_ite h with h | h
  · skip
    exact afX9_loosen_123 hK hr37 h hk
  · skip
    rcases p_ite h with h | h
    · skip
      exact afX9_loosen_123 hK hr37 h hk
    · skip
      rcases p_ite h with h | h
      · skip
        obtain ⟨x4, ex4, h⟩ := p_lt h
        replace h := p_gin h
        obtain ⟨y6, sg7, csg7, h⟩ := p_bnd2 h
        have qsg7 : K sg7 := afX4_costBelow hK  csg7 hk
        obtain ⟨x9, ex9, h⟩ := p_lt h
        rcases p_ite h with h | h
        · skip
          exact afX9_loosen_110 hK hr37 hr54 h qsg7
        · skip
          exact afX9_loosen_110 hK hr37 hr54 h qsg7
      · skip
        exact afX9_loosen_111 hK hr37 hr54 h hk
theorem aLX9_loosen_54 {K : Sg → Prop} (hK : KWa K) {r37 : (Int32 × Int32 × Sg) → Option (Sg)} {y : Sg} (hr37 : ∀ z, r37 z = some y → K z.2.2 → K y) : ∀ z, LX9_loosen_54 r37 z = some y → K z.2.2.2.2.2 → K y := by
  intro z h
  unfold LX9_loosen_54 at h
  exact loop_ind (fun rec z => fX9_loosen_54 r37 rec z.1 z.2.1 z.2.2.1 z.2.2.2.1 z.2.2.2.2.1 z.2.2.2.2.2) (y := y) (P := fun z => K z.2.2.2.2.2 → K y) (fun rec hrec z h hk => afX9_loosen_54 hK hr37 hrec h hk) z h
theorem afX9_loosen_37 {K : Sg → Prop} (hK : KWa K) {r37 : (Int32 × Int32 × Sg) → Option (Sg)} {v1 : Int32} {v2 : Int32} {sg : Sg} {y : Sg} (hr37 : ∀ z, r37 z = some y → K z.2.2 → K y) (h : fX9_loosen_37 r37 v1 v2 sg = some y) (hk : K sg) : K y := by
  unfold fX9_loosen_37 at h
  rcases p_ite h with h | h
  · skip
    replace h := p_gin h
    obtain ⟨x3, ex3, h⟩ := p_lt h
    obtain ⟨sg4, esg4, h⟩ := p_lt h
    have qsg4 : K sg4 := by rw [esg4]; exact hK.1 _ _ _ _ rfl hk
    cases h
    exact qsg4
  · skip
    obtain ⟨x5, ex5, h⟩ := p_lt h
    exact aLX9_loosen_54 hK hr37 _ h hk
theorem aLX9_loosen_37 {K : Sg → Prop} (hK : KWa K) {y : Sg} : ∀ z, LX9_loosen_37 z = some y → K z.2.2 → K y := by
  intro z h
  unfold LX9_loosen_37 at h
  exact loop_ind (fun rec z => fX9_loosen_37 rec z.1 z.2.1 z.2.2) (y := y) (P := fun z => K z.2.2 → K y) (fun rec hrec z h hk => afX9_loosen_37 hK hrec h hk) z h
theorem afX9_loosen_26 {K : Sg → Prop} (hK : KWa K) {v1 : Int32} {sg : Sg} {y : Sg} (h : fX9_loosen_26 v1 sg = some y) (hk : K sg) : K y := by
  unfold fX9_loosen_26 at h
  replace h := p_gin h
  obtain ⟨sg2, esg2, h⟩ := p_lt h
  have qsg2 : K sg2 := by rw [esg2]; exact hK.1 _ _ _ _ rfl hk
  obtain ⟨x3, ex3, h⟩ := p_lt h
  exact aLX9_loosen_37 hK  _ h qsg2
theorem afX9_loosen {K : Sg → Prop} (hK : KWa K) {sg : Sg} {y : Sg} (h : fX9_loosen sg = some y) (hk : K sg) : K y := by
  unfold fX9_loosen at h
  obtain ⟨y1, sg2, csg2, h⟩ := p_bnd2 h
  have qsg2 : K sg2 := afX8_all hK  csg2 hk
  rcases p_ite h with h | h
  · skip
    exact afX9_loosen_26 hK  h qsg2
  · skip
    obtain ⟨x5, ex5, h⟩ := p_lt h
    replace h := p_gnw h
    obtain ⟨sg7, esg7, h⟩ := p_lt h
    have qsg7 : K sg7 := by rw [esg7]; exact hK.2 _ _ _ rfl qsg2
    exact afX9_loosen_26 hK  h qsg7
theorem afX9_looseWeight {K : Sg → Prop} (hK : KWa K) {sg : Sg} {y : Int64 × Sg} (h : fX9_looseWeight sg = some y) (hk : K sg) : K y.2 := by
  unfold fX9_looseWeight at h
  obtain ⟨sg1, csg1, h⟩ := p_bnd1 h
  have qsg1 : K sg1 := afX4_prepare hK  csg1 hk
  rcases p_ite h with h | h
  · skip
    cases h
    exact qsg1
  · skip
    obtain ⟨x4, ex4, h⟩ := p_lt h
    obtain ⟨sg5, esg5, h⟩ := p_lt h
    have qsg5 : K sg5 := by rw [esg5]; exact hK.1 _ _ _ _ rfl qsg1
    obtain ⟨sg6, csg6, h⟩ := p_bnd1 h
    have qsg6 : K sg6 := afX9_loosen hK  csg6 qsg5
    cases h
    exact qsg6
theorem afX11_loose {K : Sg → Prop} (hK : KWa K) {sg : Sg} {y : Int64 × Sg} (h : fX11_loose sg = some y) (hk : K sg) : K y.2 := by
  unfold fX11_loose at h
  obtain ⟨y1, sg2, csg2, h⟩ := p_bnd2 h
  have qsg2 : K sg2 := afX9_looseWeight hK  csg2 hk
  cases h
  exact qsg2
theorem afX9_hasLawful {K : Sg → Prop} (hK : KWa K) {sg : Sg} {y : Int32 × Sg} (h : fX9_hasLawful sg = some y) (hk : K sg) : K y.2 := by
  unfold fX9_hasLawful at h
  replace h := p_gin h
  rcases p_ite h with h | h
  · skip
    cases h
    exact hk
  · skip
    cases h
    exact hk
theorem afX9_leastWeight {K : Sg → Prop} (hK : KWa K) {sg : Sg} {y : Int64 × Sg} (h : fX9_leastWeight sg = some y) (hk : K sg) : K y.2 := by
  unfold fX9_leastWeight at h
  replace h := p_gin h
  cases h
  exact hk
theorem afX11_least {K : Sg → Prop} (hK : KWa K) {sg : Sg} {y : Int64 × Sg} (h : fX11_least sg = some y) (hk : K sg) : K y.2 := by
  unfold fX11_least at h
  obtain ⟨sg1, csg1, h⟩ := p_bnd1 h
  have qsg1 : K sg1 := afX9_solve hK  csg1 hk
  obtain ⟨y4, sg5, csg5, h⟩ := p_bnd2 h
  have qsg5 : K sg5 := afX9_hasLawful hK  csg5 qsg1
  rcases p_ite h with h | h
  · skip
    cases h
    exact qsg5
  · skip
    obtain ⟨y8, sg9, csg9, h⟩ := p_bnd2 h
    have qsg9 : K sg9 := afX9_leastWeight hK  csg9 qsg5
    cases h
    exact qsg9
theorem afX9_howMany {K : Sg → Prop} (hK : KWa K) {sg : Sg} {y : Int64 × Sg} (h : fX9_howMany sg = some y) (hk : K sg) : K y.2 := by
  unfold fX9_howMany at h
  replace h := p_gin h
  cases h
  exact hk
theorem afX11_many {K : Sg → Prop} (hK : KWa K) {sg : Sg} {y : Int64 × Sg} (h : fX11_many sg = some y) (hk : K sg) : K y.2 := by
  unfold fX11_many at h
  obtain ⟨sg1, csg1, h⟩ := p_bnd1 h
  have qsg1 : K sg1 := afX9_solve hK  csg1 hk
  obtain ⟨y4, sg5, csg5, h⟩ := p_bnd2 h
  have qsg5 : K sg5 := afX9_howMany hK  csg5 qsg1
  cases h
  exact qsg5
theorem afX11_isIn {K : Sg → Prop} (hK : KWa K) {v0 : Int32} {v1 : Int32} {sg : Sg} {y : Int32 × Sg} (h : fX11_isIn v0 v1 sg = some y) (hk : K sg) : K y.2 := by
  unfold fX11_isIn at h
  rcases p_ite h with h | h
  · skip
    cases h
    exact hk
  · skip
    cases h
    exact hk
theorem afX9_bestChoices_77 {K : Sg → Prop} (hK : KWa K) {r11 : (Int32 × Int32 × Int32 × Int32 × Sg) → Option (Int32 × Sg)} {v1 : Int32} {v2 : Int32} {v3 : Int32} {v4 : Int32} {sg : Sg} {y : Int32 × Sg} (hr11 : ∀ z, r11 z = some y → K z.2.2.2.2 → K y.2) (h : fX9_bestChoices_77 r11 v1 v2 v3 v4 sg = some y) (hk : K sg) : K y.2 := by
  unfold fX9_bestChoices_77 at h
  obtain ⟨x1, ex1, h⟩ := p_lt h
  exact hr11 _ h hk
theorem afX9_bestChoices_11 {K : Sg → Prop} (hK : KWa K) {r11 : (Int32 × Int32 × Int32 × Int32 × Sg) → Option (Int32 × Sg)} {v1 : Int32} {v2 : Int32} {v3 : Int32} {v4 : Int32} {sg : Sg} {y : Int32 × Sg} (hr11 : ∀ z, r11 z = some y → K z.2.2.2.2 → K y.2) (h : fX9_bestChoices_11 r11 v1 v2 v3 v4 sg = some y) (hk : K sg) : K y.2 := by
  unfold fX9_bestChoices_11 at h
  rcases p_ite h with h | h
  · skip
    cases h
    exact hk
  · skip
    rcases p_ite h with h | h
    · skip
      cases h
      exact hk
    · skip
      obtain ⟨y3, sg4, csg4, h⟩ := p_bnd2 h
      have qsg4 : K sg4 := afX11_isIn hK  csg4 hk
      rcases p_ite h with h | h
      · skip
        exact afX9_bestChoices_77 hK hr11 h qsg4
      · skip
        replace h := p_gin h
        obtain ⟨x9, ex9, h⟩ := p_lt h
        replace h := p_gin h
        obtain ⟨y11, sg12, csg12, h⟩ := p_bnd2 h
        have qsg12 : K sg12 := afX4_costBelow hK  csg12 qsg4
        rcases p_ite h with h | h
        · skip
          obtain ⟨x15, ex15, h⟩ := p_lt h
          exact afX9_bestChoices_77 hK hr11 h qsg12
        · skip
          exact afX9_bestChoices_77 hK hr11 h qsg12
theorem aLX9_bestChoices_11 {K : Sg → Prop} (hK : KWa K) {y : Int32 × Sg} : ∀ z, LX9_bestChoices_11 z = some y → K z.2.2.2.2 → K y.2 := by
  intro z h
  unfold LX9_bestChoices_11 at h
  exact loop_ind (fun rec z => fX9_bestChoices_11 rec z.1 z.2.1 z.2.2.1 z.2.2.2.1 z.2.2.2.2) (y := y) (P := fun z => K z.2.2.2.2 → K y.2) (fun rec hrec z h hk => afX9_bestChoices_11 hK hrec h hk) z h
theorem afX9_bestChoices {K : Sg → Prop} (hK : KWa K) {v1 : Int32} {sg : Sg} {y : Int32 × Sg} (h : fX9_bestChoices v1 sg = some y) (hk : K sg) : K y.2 := by
  unfold fX9_bestChoices at h
  obtain ⟨y1, sg2, csg2, h⟩ := p_bnd2 h
  have qsg2 : K sg2 := afX9_choices hK  csg2 hk
  exact aLX9_bestChoices_11 hK  _ h qsg2
theorem afX5_append {K : Sg → Prop} (hK : KWa K) {v1 : Int32} {sg : Sg} {y : Sg} (h : fX5_append v1 sg = some y) (hk : K sg) : K y := by
  unfold fX5_append at h
  rcases p_ite h with h | h
  · skip
    cases h
    exact hk
  · skip
    replace h := p_gin h
    obtain ⟨sg3, esg3, h⟩ := p_lt h
    have qsg3 : K sg3 := by rw [esg3]; exact hK.1 _ _ _ _ rfl hk
    obtain ⟨x4, ex4, h⟩ := p_lt h
    obtain ⟨sg5, esg5, h⟩ := p_lt h
    have qsg5 : K sg5 := by rw [esg5]; exact hK.1 _ _ _ _ rfl qsg3
    cases h
    exact qsg5
theorem afX9_bringInHand_112 {K : Sg → Prop} (hK : KWa K) {r14 : (Int64 × Int32 × Int32 × Sg) → Option (Sg)} {v4 : Int64} {v6 : Int32} {v7 : Int32} {v9 : Int32} {sg : Sg} {y : Sg} (hr14 : ∀ z, r14 z = some y → K z.2.2.2 → K y) (h : fX9_bringInHand_112 r14 v4 v6 v7 v9 sg = some y) (hk : K sg) : K y := by
  unfold fX9_bringInHand_112 at h
  rcases p_ite h with h | h
  · skip
    cases h
    exact hk
  · skip
    replace h := p_gin h
    obtain ⟨sg3, csg3, h⟩ := p_bnd1 h
    have qsg3 : K sg3 := afX5_append hK  csg3 hk
    obtain ⟨x5, ex5, h⟩ := p_lt h
    obtain ⟨x6, ex6, h⟩ := p_lt h
    exact hr14 _ h qsg3
theorem afX9_bringInHand_106 {K : Sg → Prop} (hK : KWa K) {r14 : (Int64 × Int32 × Int32 × Sg) → Option (Sg)} {r40 : (Int64 × Int32 × Int32 × Int32 × Int32 × Int32 × Sg) → Option (Sg)} {v4 : Int64} {v6 : Int32} {v7 : Int32} {v8 : Int32} {v9 : Int32} {v10 : Int32} {sg : Sg} {y : Sg} (hr14 : ∀ z, r14 z = some y → K z.2.2.2 → K y) (hr40 : ∀ z, r40 z = some y → K z.2.2.2.2.2.2 → K y) (h : fX9_bringInHand_106 r14 r40 v4 v6 v7 v8 v9 v10 sg = some y) (hk : K sg) : K y := by
  unfold fX9_bringInHand_106 at h
  obtain ⟨x1, ex1, h⟩ := p_lt h
  exact hr40 _ h hk
theorem afX9_bringInHand_40 {K : Sg → Prop} (hK : KWa K) {r14 : (Int64 × Int32 × Int32 × Sg) → Option (Sg)} {r40 : (Int64 × Int32 × Int32 × Int32 × Int32 × Int32 × Sg) → Option (Sg)} {v4 : Int64} {v6 : Int32} {v7 : Int32} {v8 : Int32} {v9 : Int32} {v10 : Int32} {sg : Sg} {y : Sg} (hr14 : ∀ z, r14 z = some y → K z.2.2.2 → K y) (hr40 : ∀ z, r40 z = some y → K z.2.2.2.2.2.2 → K y) (h : fX9_bringInHand_40 r14 r40 v4 v6 v7 v8 v9 v10 sg = some y) (hk : K sg) : K y := by
  unfold fX9_bringInHand_40 at h
  rcases p_ite h with h | h
  · skip
    exact afX9_bringInHand_112 hK hr14 h hk
  · skip
    rcases p_ite h with h | h
    · skip
      obtain ⟨y3, sg4, csg4, h⟩ := p_bnd2 h
      have qsg4 : K sg4 := afX11_isIn hK  csg4 hk
      rcases p_ite h with h | h
      · skip
        exact afX9_bringInHand_106 hK hr14 hr40 h qsg4
      · skip
        obtain ⟨x8, ex8, h⟩ := p_lt h
        replace h := p_gin h
        obtain ⟨x10, ex10, h⟩ := p_lt h
        rcases p_ite h with h | h
        · skip
          obtain ⟨x12, ex12, h⟩ := p_lt h
          exact afX9_bringInHand_106 hK hr14 hr40 h qsg4
        · skip
          exact afX9_bringInHand_106 hK hr14 hr40 h qsg4
    · skip
      exact afX9_bringInHand_112 hK hr14 h hk
theorem aLX9_bringInHand_40 {K : Sg → Prop} (hK : KWa K) {r14 : (Int64 × Int32 × Int32 × Sg) → Option (Sg)} {y : Sg} (hr14 : ∀ z, r14 z = some y → K z.2.2.2 → K y) : ∀ z, LX9_bringInHand_40 r14 z = some y → K z.2.2.2.2.2.2 → K y := by
  intro z h
  unfold LX9_bringInHand_40 at h
  exact loop_ind (fun rec z => fX9_bringInHand_40 r14 rec z.1 z.2.1 z.2.2.1 z.2.2.2.1 z.2.2.2.2.1 z.2.2.2.2.2.1 z.2.2.2.2.2.2) (y := y) (P := fun z => K z.2.2.2.2.2.2 → K y) (fun rec hrec z h hk => afX9_bringInHand_40 hK hr14 hrec h hk) z h
theorem afX9_bringInHand_14 {K : Sg → Prop} (hK : KWa K) {r14 : (Int64 × Int32 × Int32 × Sg) → Option (Sg)} {v4 : Int64} {v6 : Int32} {v7 : Int32} {sg : Sg} {y : Sg} (hr14 : ∀ z, r14 z = some y → K z.2.2.2 → K y) (h : fX9_bringInHand_14 r14 v4 v6 v7 sg = some y) (hk : K sg) : K y := by
  unfold fX9_bringInHand_14 at h
  rcases p_ite h with h | h
  · skip
    cases h
    exact hk
  · skip
    obtain ⟨y2, sg3, csg3, h⟩ := p_bnd2 h
    have qsg3 : K sg3 := afX9_bestChoices hK  csg3 hk
    exact aLX9_bringInHand_40 hK hr14 _ h qsg3
theorem aLX9_bringInHand_14 {K : Sg → Prop} (hK : KWa K) {y : Sg} : ∀ z, LX9_bringInHand_14 z = some y → K z.2.2.2 → K y := by
  intro z h
  unfold LX9_bringInHand_14 at h
  exact loop_ind (fun rec z => fX9_bringInHand_14 rec z.1 z.2.1 z.2.2.1 z.2.2.2) (y := y) (P := fun z => K z.2.2.2 → K y) (fun rec hrec z h hk => afX9_bringInHand_14 hK hrec h hk) z h
theorem afX9_bringInHand {K : Sg → Prop} (hK : KWa K) {v1 : Int64} {sg : Sg} {y : Sg} (h : fX9_bringInHand v1 sg = some y) (hk : K sg) : K y := by
  unfold fX9_bringInHand at h
  obtain ⟨sg1, esg1, h⟩ := p_lt h
  have qsg1 : K sg1 := by rw [esg1]; exact hK.1 _ _ _ _ rfl hk
  exact aLX9_bringInHand_14 hK  _ h qsg1
theorem afX11_best {K : Sg → Prop} (hK : KWa K) {v1 : Int64} {sg : Sg} {y : Int64 × Sg} (h : fX11_best v1 sg = some y) (hk : K sg) : K y.2 := by
  unfold fX11_best at h
  rcases p_ite h with h | h
  · skip
    obtain ⟨sg2, csg2, h⟩ := p_bnd1 h
    have qsg2 : K sg2 := afX9_solve hK  csg2 hk
    obtain ⟨y5, sg6, csg6, h⟩ := p_bnd2 h
    have qsg6 : K sg6 := afX9_howMany hK  csg6 qsg2
    rcases p_ite h with h | h
    · skip
      obtain ⟨sg9, csg9, h⟩ := p_bnd1 h
      have qsg9 : K sg9 := afX9_bringInHand hK  csg9 qsg6
      cases h
      exact qsg9
    · skip
      cases h
      exact qsg6
  · skip
    cases h
    exact hk
theorem afX7_readFrom_25 {K : Sg → Prop} (hK : KWa K) {r25 : (Int32 × Sg) → Option (Int32 × Sg)} {v2 : Int32} {sg : Sg} {y : Int32 × Sg} (hr25 : ∀ z, r25 z = some y → K z.2 → K y.2) (h : fX7_readFrom_25 r25 v2 sg = some y) (hk : K sg) : K y.2 := by
  unfold fX7_readFrom_25 at h
  rcases p_ite h with h | h
  · skip
    cases h
    exact hk
  · skip
    replace h := p_gin h
    obtain ⟨x3, ex3, h⟩ := p_lt h
    replace h := p_gin h
    obtain ⟨x5, ex5, h⟩ := p_lt h
    rcases p_ite h with h | h
    · skip
      cases h
      exact hk
    · skip
      replace h := p_gin h
      obtain ⟨sg8, esg8, h⟩ := p_lt h
      have qsg8 : K sg8 := by rw [esg8]; exact hK.1 _ _ _ _ rfl hk
      replace h := p_gin h
      obtain ⟨sg10, esg10, h⟩ := p_lt h
      have qsg10 : K sg10 := by rw [esg10]; exact hK.1 _ _ _ _ rfl qsg8
      obtain ⟨x11, ex11, h⟩ := p_lt h
      exact hr25 _ h qsg10
theorem aLX7_readFrom_25 {K : Sg → Prop} (hK : KWa K) {y : Int32 × Sg} : ∀ z, LX7_readFrom_25 z = some y → K z.2 → K y.2 := by
  intro z h
  unfold LX7_readFrom_25 at h
  exact loop_ind (fun rec z => fX7_readFrom_25 rec z.1 z.2) (y := y) (P := fun z => K z.2 → K y.2) (fun rec hrec z h hk => afX7_readFrom_25 hK hrec h hk) z h
theorem afX7_readFrom {K : Sg → Prop} (hK : KWa K) {sg : Sg} {y : Int32 × Sg} (h : fX7_readFrom sg = some y) (hk : K sg) : K y.2 := by
  unfold fX7_readFrom at h
  obtain ⟨sg1, csg1, h⟩ := p_bnd1 h
  have qsg1 : K sg1 := afX8_gather hK  csg1 hk
  rcases p_ite h with h | h
  · skip
    exact aLX7_readFrom_25 hK  _ h qsg1
  · skip
    cases h
    exact qsg1
theorem afX9_numberOf_c32_95 {K : Sg → Prop} (hK : KWa K) {r19 : (Int64 × Int32 × Int32 × Sg) → Option (Int64 × Sg)} {r62 : (Int64 × Int32 × Int32 × Int32 × Int32 × Int32 × Sg) → Option (Int64 × Sg)} {v2 : Int64} {v4 : Int32} {v5 : Int32} {v6 : Int32} {v7 : Int32} {v8 : Int32} {sg : Sg} {y : Int64 × Sg} (hr19 : ∀ z, r19 z = some y → K z.2.2.2 → K y.2) (hr62 : ∀ z, r62 z = some y → K z.2.2.2.2.2.2 → K y.2) (h : fX9_numberOf_c32_95 r19 r62 v2 v4 v5 v6 v7 v8 sg = some y) (hk : K sg) : K y.2 := by
  unfold fX9_numberOf_c32_95 at h
  obtain ⟨x1, ex1, h⟩ := p_lt h
  exact hr62 _ h hk
theorem afX9_numberOf_c32_62 {K : Sg → Prop} (hK : KWa K) {r19 : (Int64 × Int32 × Int32 × Sg) → Option (Int64 × Sg)} {r62 : (Int64 × Int32 × Int32 × Int32 × Int32 × Int32 × Sg) → Option (Int64 × Sg)} {v2 : Int64} {v4 : Int32} {v5 : Int32} {v6 : Int32} {v7 : Int32} {v8 : Int32} {sg : Sg} {y : Int64 × Sg} (hr19 : ∀ z, r19 z = some y → K z.2.2.2 → K y.2) (hr62 : ∀ z, r62 z = some y → K z.2.2.2.2.2.2 → K y.2) (h : fX9_numberOf_c32_62 r19 r62 v2 v4 v5 v6 v7 v8 sg = some y) (hk : K sg) : K y.2 := by
  unfold fX9_numberOf_c32_62 at h
  rcases p_ite h with h | h
  · skip
    obtain ⟨x2, ex2, h⟩ := p_lt h
    obtain ⟨x3, ex3, h⟩ := p_lt h
    exact hr19 _ h hk
  · skip
    obtain ⟨y4, sg5, csg5, h⟩ := p_bnd2 h
    have qsg5 : K sg5 := afX11_isIn hK  csg5 hk
    rcases p_ite h with h | h
    · skip
      exact afX9_numberOf_c32_95 hK hr19 hr62 h qsg5
    · skip
      obtain ⟨x9, ex9, h⟩ := p_lt h
      replace h := p_gin h
      obtain ⟨x11, ex11, h⟩ := p_lt h
      exact afX9_numberOf_c32_95 hK hr19 hr62 h qsg5
theorem aLX9_numberOf_c32_62 {K : Sg → Prop} (hK : KWa K) {r19 : (Int64 × Int32 × Int32 × Sg) → Option (Int64 × Sg)} {y : Int64 × Sg} (hr19 : ∀ z, r19 z = some y → K z.2.2.2 → K y.2) : ∀ z, LX9_numberOf_c32_62 r19 z = some y → K z.2.2.2.2.2.2 → K y.2 := by
  intro z h
  unfold LX9_numberOf_c32_62 at h
  exact loop_ind (fun rec z => fX9_numberOf_c32_62 r19 rec z.1 z.2.1 z.2.2.1 z.2.2.2.1 z.2.2.2.2.1 z.2.2.2.2.2.1 z.2.2.2.2.2.2) (y := y) (P := fun z => K z.2.2.2.2.2.2 → K y.2) (fun rec hrec z h hk => afX9_numberOf_c32_62 hK hr19 hrec h hk) z h
theorem afX9_numberOf_c32_19 {K : Sg → Prop} (hK : KWa K) {r19 : (Int64 × Int32 × Int32 × Sg) → Option (Int64 × Sg)} {v2 : Int64} {v4 : Int32} {v5 : Int32} {sg : Sg} {y : Int64 × Sg} (hr19 : ∀ z, r19 z = some y → K z.2.2.2 → K y.2) (h : fX9_numberOf_c32_19 r19 v2 v4 v5 sg = some y) (hk : K sg) : K y.2 := by
  unfold fX9_numberOf_c32_19 at h
  rcases p_ite h with h | h
  · skip
    cases h
    exact hk
  · skip
    replace h := p_gin h
    obtain ⟨x3, ex3, h⟩ := p_lt h
    obtain ⟨y4, sg5, csg5, h⟩ := p_bnd2 h
    have qsg5 : K sg5 := afX9_bestChoices hK  csg5 hk
    obtain ⟨y7, sg8, csg8, h⟩ := p_bnd2 h
    have qsg8 : K sg8 := afX11_isIn hK  csg8 qsg5
    rcases p_ite h with h | h
    · skip
      cases h
      exact qsg8
    · skip
      exact aLX9_numberOf_c32_62 hK hr19 _ h qsg8
theorem aLX9_numberOf_c32_19 {K : Sg → Prop} (hK : KWa K) {y : Int64 × Sg} : ∀ z, LX9_numberOf_c32_19 z = some y → K z.2.2.2 → K y.2 := by
  intro z h
  unfold LX9_numberOf_c32_19 at h
  exact loop_ind (fun rec z => fX9_numberOf_c32_19 rec z.1 z.2.1 z.2.2.1 z.2.2.2) (y := y) (P := fun z => K z.2.2.2 → K y.2) (fun rec hrec z h hk => afX9_numberOf_c32_19 hK hrec h hk) z h
theorem afX9_numberOf_c32 {K : Sg → Prop} (hK : KWa K) {sg : Sg} {y : Int64 × Sg} (h : fX9_numberOf_c32 sg = some y) (hk : K sg) : K y.2 := by
  unfold fX9_numberOf_c32 at h
  obtain ⟨y1, sg2, csg2, h⟩ := p_bnd2 h
  have qsg2 : K sg2 := afX9_hasLawful hK  csg2 hk
  rcases p_ite h with h | h
  · skip
    cases h
    exact qsg2
  · skip
    exact aLX9_numberOf_c32_19 hK  _ h qsg2
theorem afX11_number {K : Sg → Prop} (hK : KWa K) {sg : Sg} {y : Int64 × Sg} (h : fX11_number sg = some y) (hk : K sg) : K y.2 := by
  unfold fX11_number at h
  obtain ⟨y1, sg2, csg2, h⟩ := p_bnd2 h
  have qsg2 : K sg2 := afX7_readFrom hK  csg2 hk
  rcases p_ite h with h | h
  · skip
    cases h
    exact qsg2
  · skip
    obtain ⟨sg5, csg5, h⟩ := p_bnd1 h
    have qsg5 : K sg5 := afX9_solve hK  csg5 qsg2
    obtain ⟨y8, sg9, csg9, h⟩ := p_bnd2 h
    have qsg9 : K sg9 := afX9_numberOf_c32 hK  csg9 qsg5
    cases h
    exact qsg9
