theorem vn_le' {S : Nat → Int32} {A X u : Nat} (sv : SV S) (hA : A = (ctg S (S 0).toInt.toNat).toInt.toNat) (h : vn A X u) : X ≤ 4095 ∧ u ≤ 12 := by
  have s12 := sv.2.1
  have : X < 2 ^ 12 := lt_of_tb (fun j hj => by
    have := h.1 j hj
    rw [hA] at this
    have := ((ctg_tb j _ (by omega)).mp this).1
    omega)
  have e : (2 : Nat) ^ 12 = 4096 := by decide
  have := h.2
  omega
theorem mcn_A {sg : Sg} {A X u h : Nat} (sv : SV (sg 1)) (hA : A = (ctg (sg 1) (sg 1 0).toInt.toNat).toInt.toNat) (hX : X ≤ 4095) (hh : h < 12) (m : MCn sg h X u) : A.testBit h = true := by
  have nb := mcn_cb hX hh m
  have s12 := sv.2.1
  have o := ofn_n hh
  have lt : h < (sg 1 0).toInt.toNat := by
    have z1 := nb.2
    simp only [cb, decide_eq_true_eq] at z1
    omega
  rw [hA]
  exact (ctg_tb h _ (by omega)).mpr ⟨lt, nb.2⟩
theorem m_48 {sg : Sg} {lg : Lg} {A : Nat} {k : Int} {y : Int64 × Sg × Lg} (sv : SV (sg 1)) (hA : A = (ctg (sg 1) (sg 1 0).toInt.toNat).toInt.toNat) (hR : ∀ X u, vn A X u → RN sg lg A X u) : ∀ z, LX12_best_48 z = some y → ∀ X u, z.1 = Int32.ofNat X → z.2.1 = Int32.ofNat u → vn A X u → SR sg z.2.2.2.1 → z.2.2.2.2 = lg → 0 ≤ z.2.2.1.toInt → z.2.2.1.toInt < Wv lg X u → RI sg lg A k z.2.2.2.1 X u z.2.2.1.toInt → RH sg lg A k y := by
  intro z e
  unfold LX12_best_48 at e
  refine loop_ind (fun rec z => fX12_best_48 rec z.1 z.2.1 z.2.2.1 z.2.2.2.1 z.2.2.2.2) (y := y) (P := fun z => ∀ X u, z.1 = Int32.ofNat X → z.2.1 = Int32.ofNat u → vn A X u → SR sg z.2.2.2.1 → z.2.2.2.2 = lg → 0 ≤ z.2.2.1.toInt → z.2.2.1.toInt < Wv lg X u → RI sg lg A k z.2.2.2.1 X u z.2.2.1.toInt → RH sg lg A k y) (fun rec hrec z h X u a1 a2 a3 a4 a5 a6 a7 a8 => ?_) _ e
  obtain ⟨v3, v4, v5, s, l⟩ := z
  replace a1 : v3 = Int32.ofNat X := a1
  replace a2 : v4 = Int32.ofNat u := a2
  replace a4 : SR sg s := a4
  replace a5 : l = lg := a5
  replace a6 : 0 ≤ v5.toInt := a6
  replace a7 : v5.toInt < Wv lg X u := a7
  replace a8 : RI sg lg A k s X u v5.toInt := a8
  subst a1 a2 a5
  have le := vn_le' sv hA a3
  have sv' : SV (s 1) := by rw [a4.1]; exact sv
  have cr := ctg_r (sg 1) (sg 1 0).toInt.toNat (by have := sv.2.1; omega)
  have ox := ofn_x le.1
  replace h : fX12_best_48 rec (Int32.ofNat X) (Int32.ofNat u) v5 s l = some y := h
  unfold fX12_best_48 at h
  rw [counting_is sv'] at h
  replace h : (if Int32.ofNat X = ctg (s 1) (s 1 0).toInt.toNat then some ((s 0 4).toInt64, s, l) else LX12_best_59 rec (Int32.ofNat X, Int32.ofNat u, v5, (0 : Int32), s, l)) = some y := h
  rw [a4.1] at h
  by_cases c : X = A
  · rw [if_pos (Int32.toInt_inj.mp (by rw [ox, c, hA]; omega))] at h
    cases h
    obtain ⟨l0, l1, l2, l3⟩ := a8
    have ro := l2 [] (show RO sg l A [] X u v5.toInt from c)
    rw [List.append_nil] at ro
    exact ⟨⟨l0, ro, l1, l3⟩, rfl⟩
  · rw [if_neg (fun z => c (by have := congrArg Int32.toInt z; rw [hA]; omega))] at h
    exact m_59 sv hA hR a3 le.1 le.2 c a4 a6 a7 a8 (fun h7 v s' t1 t2 t3 t4 t5 t6 t7 => hrec _ t7 (X ||| 2 ^ h7) h7 rfl rfl (vn_next a3 (mcn_A sv hA le.1 t1 t2.1) t1) t5 rfl t3 t4 t6) h
/-- what best leaves in the reference -/
theorem m_best {sm sm' : Sg} {lm lm' : Lg} {v : Int64} {r' : Int64} (sv : SV (sm 1)) (v0 : 0 ≤ v.toInt) (e : fX12_best v sm lm = some (r', sm', lm')) : ∃ s l A, A = (ctg (s 1) (s 1 0).toInt.toNat).toInt.toNat ∧ s 1 = sm 1 ∧ s 0 7 = 1 ∧ s 0 9 = -1 ∧ (∀ X u, vn A X u → RN s l A X u) ∧ FM0 sm s ∧ ((v.toInt < Wv l 0 12 ∧ RH s l A v.toInt (r', sm', lm')) ∨ (Wv l 0 12 ≤ v.toInt ∧ r' = -2000000005 ∧ sm' 3 = s 3 ∧ sm' 0 4 = s 0 4)) := by
  have kc : (12 : Int32).toNatClampNeg = 12 := by decide
  have j0 : (0 : Int64).toInt = 0 := by decide
  unfold fX12_best at e
  rw [if_pos (by rw [j_le]; omega)] at e
  obtain ⟨s, l, c2, e⟩ := p_bnd2 e
  obtain ⟨A, m1, m2, m3, m4, m5, m6⟩ := ok_at (x_law sv) c2
  replace m1 : A = (ctg (s 1) (s 1 0).toInt.toNat).toInt.toNat := m1
  replace m2 : s 1 = sm 1 := m2
  refine ⟨s, l, A, m1, m2, m3, m4, m5, m6, ?_⟩
  replace e : gin (12 : Int32) 53248 ((if v < (l 5 (12 : Int32).toNatClampNeg) then lt (up2 s 0 4 (0 : Int32)) (fun sg11 => LX12_best_48 ((0 : Int32), (12 : Int32), v, sg11, l)) else some ((-2000000005 : Int64), s, l))) = some (r', sm', lm') := e
  replace e := p_gin e
  rw [kc] at e
  have ew : (l 5 12).toInt = Wv l 0 12 := rfl
  by_cases c : v < l 5 12
  · rw [if_pos c] at e
    replace c := j_lt.mp c
    obtain ⟨s11, e11, e⟩ := p_lt e
    left
    refine ⟨by omega, ?_⟩
    have sv' : SV (s 1) := by rw [m2]; exact sv
    refine m_48 (k := v.toInt) sv' m1 m5 _ e 0 12 rfl rfl ⟨fun j hj => absurd hj (by rw [Nat.zero_testBit]; decide), Or.inl ⟨rfl, rfl⟩⟩ ⟨?_, ?_, ?_, ?_⟩ rfl v0 (by show v.toInt < _; omega) ⟨[], ?_, fun l ro => ro, fun i hi => absurd hi (Nat.not_lt_zero _)⟩
    · show s11 1 = s 1
      rw [e11, up2_n (by decide)]
    · show s11 0 7 = s 0 7
      rw [e11, up2_o (by omega)]
    · show s11 0 8 = s 0 8
      rw [e11, up2_o (by omega)]
    · show s11 0 9 = s 0 9
      rw [e11, up2_o (by omega)]
    · show ((0 : Nat) : Int) = (s11 0 4).toInt
      rw [e11, up2_e]
      rfl
  · rw [if_neg c] at e
    replace c := j_nlt.mp c
    cases e
    exact Or.inr ⟨by omega, rfl, rfl, rfl⟩
/-! a choice and who may come -/
section
variable {sx sm : Sg} {lm : Lg} {A x u : Nat}
theorem ch_toM {h X : Nat} (hI : IC0 sx) (hF : FEq sx (sm 1)) (h7 : sm 0 7 = 1) (h9 : sm 0 9 = -1) (le : X ≤ 4095) (ule : u ≤ 12) (hg : Good sx X u) (hh : h < 12) (hc : cnb sx h = true) (ch : CHh sx X h) : MCn sm h X u := by
  obtain ⟨c1, c2, c3⟩ := ch
  refine (mcn_law hI hF h7 h9 le ule hh).mpr ⟨c1, hc, fun k hk => ⟨fun z => ?_, fun z => ?_, fun z => ?_⟩⟩
  · cases hb : X.testBit k
    · exact absurd (Or.inr ⟨by rw [z]; decide, hk⟩) (c2 k hk.2.2.2.2.1 hk.2.2.2.2.2 hb)
    · rfl
  · cases hb : X.testBit k
    · rfl
    · exact absurd z (hg h k hh hc c1 hk hb).1
  · cases hb : X.testBit k
    · exact absurd (Or.inr ⟨by rw [z]; decide, hk⟩) (c2 k hk.2.2.2.2.1 hk.2.2.2.2.2 hb)
    · exact ((hg h k hh hc c1 hk hb).2 z).symm
theorem ch_good {h X : Nat} (hg : Good sx X u) (ch : CHh sx X h) : Good sx (X ||| 2 ^ h) h := by
  obtain ⟨c1, c2, c3⟩ := ch
  intro k i hk hck hb hw hi
  have hb' : X.testBit k = false ∧ k ≠ h := by
    rw [tb_or, Bool.or_eq_false_iff] at hb
    exact ⟨hb.1, fun z => of_decide_eq_false hb.2 z.symm⟩
  rw [tb_or, Bool.or_eq_true, decide_eq_true_eq] at hi
  rcases hi with z | z
  · have g := hg k i hk hck hb'.1 hw z
    exact ⟨g.1, fun y => absurd (c3 k i hk hck hb'.1 y z hw) hb'.2⟩
  · subst z
    exact ⟨fun y => c2 k hk hck hb'.1 (Or.inl ⟨y, hw⟩), fun _ => rfl⟩
theorem ch_dead {h X : Nat} (hI : IC0 sx) (hF : FEq sx (sm 1)) (h7 : sm 0 7 = 1) (h9 : sm 0 9 = -1) (le : X ≤ 4095) (ule : u ≤ 12) (ns : ∀ h, ¬ Wt sx h h) (hv : vn A X u) (hh : h < 12) (m : MCn sm h X u) (nc : ¬ CHh sx X h) : ¬ Good sx (X ||| 2 ^ h) h := by
  intro g
  obtain ⟨m1, -, m3⟩ := (mcn_law hI hF h7 h9 le ule hh).mp m
  refine nc ⟨m1, fun k hk hck hb hw => ?_, fun k i hk hck hb h3 hi hw => Classical.byContradiction fun z => ?_⟩
  · rcases hw with ⟨y1, y2⟩ | ⟨y1, y2⟩
    · have kh : k ≠ h := fun z => by rw [z] at y2; exact ns h y2
      exact (g k h hk hck (tb_orf hb kh) y2 (by rw [tb_or, decide_eq_true rfl, Bool.or_true])).1 y1
    · rcases kd_cases hI y2.2.1 y2.2.2.1 with z | z | z
      · have := (m3 k y2).1 z
        rw [hb] at this; cases this
      · exact y1 z
      · have uk := (m3 k y2).2.2 z
        rcases hv.2 with w | w
        · omega
        · rw [uk, hb] at w
          exact absurd w.2 (by decide)
  · have := (g k i hk hck (tb_orf hb z) hw (tb_ort hi)).2 h3
    rw [this, m1] at hi
    cases hi
/-- who is best next, by hens and by slots -/
theorem law_step (hI : IC0 sx) (hF : FEq sx (sm 1)) (hM : MC sx) (hO : OV sx) (h7 : sm 0 7 = 1) (h9 : sm 0 9 = -1) (hA : A = (ctg (sm 1) (sm 1 0).toInt.toNat).toInt.toNat) (ns : ∀ h, ¬ Wt sx h h) (hR : ∀ X u, vn A X u → RN sm lm A X u) (hx : x < 2 ^ rk sx 12) (hv : vn A (HS sx x) u) (hg : Good sx (HS sx x) u) (small : ¬ rr sx x = 1000000000) {h : Nat} (hh : h < 12) : (BBn sm lm (HS sx x) u h ↔ (cnb sx h = true ∧ BQ sx x (rk sx h))) ∧ (cnb sx h = true → BQ sx x (rk sx h) → Good sx (HS sx x ||| 2 ^ h) h ∧ vn A (HS sx x ||| 2 ^ h) h ∧ Wv lm (HS sx x ||| 2 ^ h) h = ws sx (x ||| 2 ^ rk sx h)) := by
  have t2 := rdC1_0 hI
  have en : (sx 3 2).toInt.toNat = rk sx 12 := by rw [hM.1]; rfl
  have n12 := rk_le sx 12
  have le := HS_le sx x
  have ule := (vn_le hF t2.2 hA hv).2
  have hO' := hO
  unfold OV at hO'
  rw [en] at hO'
  have L := (law_eq hI hF hM hO h7 h9 hA ns hR (2 ^ rk sx 12) x u hx (by omega) hv hg).1
  unfold rw' at L
  rw [if_neg small] at L
  have rb := (hO' x (by omega) hx).1
  have zl := zc_le x (rk sx 12)
  have sm1 : 0 ≤ rr sx x ∧ rr sx x ≤ 144000000 := by
    refine ⟨rb.1, ?_⟩
    rcases rb.2.1 with y | y
    · exact absurd y.1 small
    · omega
  have csb := cs_bd hI (rk sx h) x
  -- a choice
  have C : cnb sx h = true → CHh sx (HS sx x) h → (x ||| 2 ^ rk sx h < 2 ^ rk sx 12 ∧ Good sx (HS sx x ||| 2 ^ h) h ∧ vn A (HS sx x ||| 2 ^ h) h ∧ Wv lm (HS sx x ||| 2 ^ h) h = ws sx (x ||| 2 ^ rk sx h) ∧ nx sm lm h (HS sx x) = (if rr sx (x ||| 2 ^ rk sx h) = 1000000000 then 1000000000000000 else rval sx x (rk sx h)) ∧ 0 ≤ rr sx (x ||| 2 ^ rk sx h) ∧ (rr sx (x ||| 2 ^ rk sx h) = 1000000000 ∨ rr sx (x ||| 2 ^ rk sx h) ≤ 144000000)) := by
    intro hc ch
    have rl := rk_lt hc hh
    have ol := or_lt hx rl
    have oe := HS_or (x := x) hh hc
    have gd := ch_good hg ch
    have vx := vn_next hv (in_A hF t2.2 hA hh hc) hh
    have e := law_eq hI hF hM hO h7 h9 hA ns hR (2 ^ rk sx 12) (x ||| 2 ^ rk sx h) h ol (by omega) (by rw [oe]; exact vx) (by rw [oe]; exact gd)
    rw [oe] at e
    have lb := (hO' (x ||| 2 ^ rk sx h) (by omega) ol).1
    have zl2 := zc_le (x ||| 2 ^ rk sx h) (rk sx 12)
    have lb2 : rr sx (x ||| 2 ^ rk sx h) = 1000000000 ∨ rr sx (x ||| 2 ^ rk sx h) ≤ 144000000 := by
      rcases lb.2.1 with y | y
      · exact Or.inl y.1
      · right; omega
    refine ⟨ol, gd, vx, e.2, ?_, lb.1, lb2⟩
    unfold nx rval
    rw [e.1, cm_cs hF hM hh hc hx]
    unfold rw'
    have lb1 := lb.1
    by_cases w : rr sx (x ||| 2 ^ rk sx h) = 1000000000
    · rw [if_pos w, if_pos w, if_neg (by decide)]
    · rw [if_neg w, if_neg w, if_pos (by omega)]
      omega
  refine ⟨⟨fun b => ?_, fun b => ?_⟩, fun hc b => ?_⟩
  · obtain ⟨b1, b2, b3⟩ := b
    have m := (mcn_law hI hF h7 h9 le ule hh).mp b1
    by_cases ch : CHh sx (HS sx x) h
    · obtain ⟨c1, c2, c3, c4, c5, c6, c7⟩ := C m.2.1 ch
      rw [c5] at b2 b3
      by_cases w : rr sx (x ||| 2 ^ rk sx h) = 1000000000
      · rw [if_pos w] at b2; omega
      · rw [if_neg w] at b3
        exact ⟨m.2.1, (ch_hen hI hM hx hh m.2.1).mpr ch, by rw [b3, L]⟩
    · have d := dead hI hF h7 h9 hA hR 4096 (HS sx x ||| 2 ^ h) h (by omega) (vn_next hv (in_A hF t2.2 hA hh m.2.1) hh) (ch_dead hI hF h7 h9 le ule ns hv hh b1 ch)
      unfold nx at b2
      rw [d.1, if_neg (by decide)] at b2
      omega
  · obtain ⟨hc, b⟩ := b
    have ch := (ch_hen hI hM hx hh hc).mp b.1
    obtain ⟨c1, c2, c3, c4, c5, c6, c7⟩ := C hc ch
    have b2 := b.2
    unfold rval at b2
    have e : nx sm lm h (HS sx x) = rr sx x := by rw [c5, if_neg (by omega)]; exact b.2
    exact ⟨ch_toM hI hF h7 h9 le ule hg hh hc ch, by omega, by rw [e, L]⟩
  · obtain ⟨c1, c2, c3, c4, -⟩ := C hc ((ch_hen hI hM hx hh hc).mp b.1)
    exact ⟨c2, c3, c4⟩
end
/-! the k-th best order is the same on both sides -/
theorem PW_mono {sg : Sg} {x : Nat} (hO : OV sg) (hI : IC0 sg) (hx : x < 2 ^ (sg 3 2).toInt.toNat) {a : Nat} : ∀ {b : Nat}, a ≤ b → PW sg x a ≤ PW sg x b := by
  intro b h
  induction b with
  | zero => rw [show a = 0 by omega]; exact Int.le_refl _
  | succ b ih =>
    by_cases c : a = b + 1
    · rw [c]; exact Int.le_refl _
    · have h1 := ih (by omega)
      by_cases q : BQ sg x b
      · have e : PW sg x (b + 1) = PW sg x b + ws sg (x ||| 2 ^ b) := SF_p q
        have w := (rr_bd hO hI (or_lt hx q.1.1)).2.2.1
        omega
      · have e : PW sg x (b + 1) = PW sg x b := SF_n q
        omega
section
variable {sx sm : Sg} {lm : Lg} {A : Nat}
theorem ro_bo (hI : IC0 sx) (hF : FEq sx (sm 1)) (hM : MC sx) (hO : OV sx) (h7 : sm 0 7 = 1) (h9 : sm 0 9 = -1) (hA : A = (ctg (sm 1) (sm 1 0).toInt.toNat).toInt.toNat) (ns : ∀ h, ¬ Wt sx h h) (hR : ∀ X u, vn A X u → RN sm lm A X u) : ∀ (lh : List Nat) (x u : Nat) (k : Int), x < 2 ^ rk sx 12 → vn A (HS sx x) u → Good sx (HS sx x) u → 0 ≤ k → k < ws sx x → RO sm lm A lh (HS sx x) u k → ∀ ls, BO sx ls x k → ls = lh.map (rk sx) ∧ ∀ i, i < lh.length → lh.getD i 0 < 12 ∧ cnb sx (lh.getD i 0) = true ∧ ls.getD i 0 = rk sx (lh.getD i 0) := by
  have t2 := rdC1_0 hI
  have en : (sx 3 2).toInt.toNat = rk sx 12 := by rw [hM.1]; rfl
  have hall := HS_all hF t2.2
  rw [show (sm 1) 0 = sm 1 0 from rfl, ← hA] at hall
  intro lh
  induction lh with
  | nil =>
    intro x u k hx hv hg k0 k1 ro ls bo
    have ro' : HS sx x = A := ro
    have ex : x = 2 ^ rk sx 12 - 1 := HS_inj hx (by omega) (by rw [ro', hall])
    cases ls with
    | nil => exact ⟨rfl, fun i hi => absurd hi (Nat.not_lt_zero _)⟩
    | cons s l =>
      have := bo.1.2.1
      rw [en] at this
      exact absurd ex this
  | cons h l ih =>
    intro x u k hx hv hg k0 k1 ro ls bo
    obtain ⟨⟨r1, r2, r3, r4, r5⟩, r6⟩ := ro
    have xne : x ≠ 2 ^ rk sx 12 - 1 := fun z => r1 (by rw [z]; exact hall)
    have small : ¬ rr sx x = 1000000000 := fun z => by
      have b := (hO x (by omega) (by rw [en]; exact hx)).1
      have zl := zc_le x (sx 3 2).toInt.toNat
      have n12 := rdC3_2 hI
      rcases b.2.1 with y | y
      · omega
      · omega
    have stp := fun {h : Nat} (hh : h < 12) => law_step hI hF hM hO h7 h9 hA ns hR hx hv hg small hh
    obtain ⟨hc, bq⟩ := (stp r2).1.mp r3
    obtain ⟨gd, vx, wx⟩ := (stp r2).2 hc bq
    have sums : ∀ m, m ≤ 12 → RW sm lm (HS sx x) u m = PW sx x (rk sx m) := by
      intro m hm
      refine SF_rk (sx := sx) (fun j hj hcj => ?_) (fun j hj hcj hp => ?_) (fun j hj hcj hp => ?_) m hm
      · exact ⟨fun z => ((stp hj).1.mp z).2, fun z => (stp hj).1.mpr ⟨hcj, z⟩⟩
      · have := ((stp hj).1.mp hp).1
        rw [hcj] at this; cases this
      · exact ((stp hj).2 hcj ((stp hj).1.mp hp).2).2.2
    rw [sums h (by omega)] at r4 r6
    rw [sums (h + 1) (by omega), rk_s hc] at r5
    cases ls with
    | nil =>
      have bo' : x = 2 ^ (sx 3 2).toInt.toNat - 1 := bo
      rw [en] at bo'
      exact absurd bo' xne
    | cons s l' =>
      obtain ⟨⟨b1, b2, b3, b4, b5⟩, b6⟩ := bo
      have es : s = rk sx h := by
        rcases Nat.lt_trichotomy s (rk sx h) with z | z | z
        · have := PW_mono hO hI b1 (show s + 1 ≤ rk sx h by omega)
          omega
        · exact z
        · have := PW_mono hO hI b1 (show rk sx h + 1 ≤ s by omega)
          omega
      subst es
      have oe := HS_or (x := x) r2 hc
      have pp : PW sx x (rk sx h + 1) = PW sx x (rk sx h) + ws sx (x ||| 2 ^ rk sx h) := SF_p bq
      rw [← oe] at gd vx r6
      have q := ih (x ||| 2 ^ rk sx h) h (k - PW sx x (rk sx h)) (or_lt hx (rk_lt hc r2)) vx gd (by omega) (by omega) r6 l' b6
      refine ⟨by rw [q.1]; rfl, fun i hi => ?_⟩
      cases i with
      | zero => exact ⟨r2, hc, rfl⟩
      | succ i => exact q.2 i (by simpa using hi)
end
/-- the order in hand is alike -/
def HR (sx sm : Sg) : Prop := sx 5 0 = sm 0 4 ∧ ∀ i : Nat, (i : Int) < (sx 5 0).toInt → sx 31 i = sm 3 i
/-- best: the answers are alike, and the hands -/
theorem val_best {K : Sg → Sg → Lg → Prop} {n : Nat} {sx sm sx' sm' : Sg} {lm lm' : Lg} {v r r' : Int64} (h : Rel K n sx sm lm) (hJ : JC sx) (hN : NSH sm) (e1 : fX11_best v sx = some (r, sx')) (e2 : fX12_best v sm lm = some (r', sm', lm')) : r = r' ∧ (HR sx sm → HR sx' sm') := by
  obtain ⟨hI, hM, hF, -⟩ := h
  have j0 : (0 : Int64).toInt = 0 := by decide
  have k0 : (0 : Int32).toNatClampNeg = 0 := by decide
  by_cases v0 : 0 ≤ v.toInt
  · unfold fX11_best at e1
    rw [if_pos (by rw [j_le]; omega)] at e1
    obtain ⟨s1, c1, e1⟩ := p_bnd1 e1
    obtain ⟨i1, -, mc1, hc1, ov1, -, f1⟩ := ok_at (j_solve hI hJ) c1
    have ln1 : LN s1 := by
      have q := (ok_at (sX9_solve hI) c1).2
      unfold LN
      rw [← pw_is]
      exact ⟨q.1, q.2.1⟩
    have F1 : FEq s1 (sm 1) := FEq_cg hF.1 (fun k hk => f1 k (by unfold flq at hk; omega))
    obtain ⟨s, l, A, m1, m2, m3, m4, m5, fm, alt⟩ := m_best hM.2.2 v0 e2
    have F1' : FEq s1 (s 1) := by rw [m2]; exact F1
    have ns := ns_wt F1 hN
    have z := law0 i1.1 F1 mc1 ov1 ns ⟨A, m1, m2, m3, m4, m5, fm⟩
    obtain ⟨y5, s6, c5, e1⟩ := p_bnd2 e1
    unfold fX9_howMany at c5
    replace c5 := p_gin c5
    rw [k0] at c5
    cases c5
    have ew : ((s1 64 0).toInt64).toInt = ws s1 0 := by rw [Int32.toInt_toInt64]; rfl
    rcases alt with ⟨a1, ⟨lh, ro, q1, q2⟩, q3⟩ | ⟨a1, a2, a3, a4⟩
    · rw [z.2.1] at a1
      rw [if_pos (by rw [j_lt]; omega)] at e1
      obtain ⟨s9, c9, e1⟩ := p_bnd1 e1
      obtain ⟨⟨ls, bo, b1, b2⟩, b3, b4⟩ := ok_at (b_bring i1.1 hc1 ov1 ln1 v0 a1) c9
      cases e1
      have en : (s1 3 2).toInt.toNat = rk s1 12 := by rw [mc1.1]; rfl
      have n12 := rdC3_2 i1.1
      have cn := ro_bo i1.1 F1' mc1 ov1 m3 m4 m1 ns m5 lh 0 12 v.toInt (Nat.pow_pos (by decide)) ⟨fun j hj => absurd hj (by rw [HS_0, Nat.zero_testBit]; decide), Or.inl ⟨rfl, HS_0 s1⟩⟩ (by rw [HS_0]; exact good0 s1 12) v0 a1 (by rw [HS_0]; exact ro) ls bo
      replace q1 : (lh.length : Int) = (sm' 0 4).toInt := q1
      replace q2 : ∀ i, i < lh.length → sm' 3 i = Int32.ofNat (lh.getD i 0) := q2
      replace q3 : r' = (sm' 0 4).toInt64 := q3
      have ll : ls.length = lh.length := by rw [cn.1, List.length_map]
      have es : sx' 5 0 = sm' 0 4 := Int32.toInt_inj.mp (by omega)
      refine ⟨by rw [q3, es], fun _ => ⟨es, fun i hi => ?_⟩⟩
      have hil : i < lh.length := by omega
      obtain ⟨g1, g2, g3⟩ := cn.2 i hil
      rw [b2 i (by omega), g3, (mc1.2.1 _ g1 g2).1, q2 i hil]
    · rw [z.2.1] at a1
      rw [if_neg (by rw [j_lt]; omega)] at e1
      cases e1
      refine ⟨a2.symm, fun hr => ⟨?_, fun i hi => ?_⟩⟩
      · rw [f1 5 (by omega), a4, fm.2 4 (by decide) (by decide) (by decide)]; exact hr.1
      · rw [f1 5 (by omega)] at hi
        rw [f1 31 (by omega), a3, fm.1 3 (by decide)]; exact hr.2 i hi
  · unfold fX11_best at e1
    rw [if_neg (by rw [j_le]; omega)] at e1
    unfold fX12_best at e2
    rw [if_neg (by rw [j_le]; omega)] at e2
    cases e1
    cases e2
    exact ⟨rfl, fun hr => hr⟩
/-! one is moved from a place to another -/
def SH (f : Nat → Int32) (i k : Nat) : Nat → Int32 := fun j => if j = k then f i else if i ≤ j ∧ j < k then f (j + 1) else if k < j ∧ j ≤ i then f (j - 1) else f j
theorem c_sh31_32 {A s : Sg} {v1 v2 : Int32} (a0 : 0 ≤ v1.toInt) (a1 : v1.toInt ≤ 11) (b0 : 0 ≤ v2.toInt) (b1 : v2.toInt ≤ 11) (fr : ∀ c, c ≠ 31 → s c = A c) (hs : ∀ t, s 31 t = if v1.toInt.toNat ≤ t ∧ t < v2.toInt.toNat then A 31 (t + 1) else A 31 t) : Ok (fun r => (∀ c, c ≠ 31 → r c = A c) ∧ ∀ j, r 31 j = SH (A 31) v1.toInt.toNat v2.toInt.toNat j) (LX11_shift_c31_32 (v2, A 31 v1.toInt.toNat, v1, s)) := by
  have hc2 := cl_i b0
  unfold LX11_shift_c31_32
  refine ok_loop (I := fun (q : Int32 × Int32 × Int32 × Sg) => q.1 = v2 ∧ q.2.1 = A 31 v1.toInt.toNat ∧ q.2.2.1.toInt ≤ v1.toInt ∧ 0 ≤ q.2.2.1.toInt ∧ (v2.toInt ≤ q.2.2.1.toInt ∨ q.2.2.1.toInt = v1.toInt) ∧ (∀ c, c ≠ 31 → q.2.2.2 c = A c) ∧ ∀ t, q.2.2.2 31 t = if v1.toInt.toNat ≤ t ∧ t < v2.toInt.toNat then A 31 (t + 1) else if q.2.2.1.toInt.toNat < t ∧ t ≤ v1.toInt.toNat then A 31 (t - 1) else A 31 t) (m := fun (q : Int32 × Int32 × Int32 × Sg) => q.2.2.1.toInt.toNat) _ ?_ ?_ _ ?_
  · intro q hq
    have := hq.2.2.1
    show q.2.2.1.toInt.toNat < 10000
    omega
  · intro rec q hq hrec
    obtain ⟨p2, p3, v4, s⟩ := q
    replace hq : p2 = v2 ∧ p3 = A 31 v1.toInt.toNat ∧ v4.toInt ≤ v1.toInt ∧ 0 ≤ v4.toInt ∧ (v2.toInt ≤ v4.toInt ∨ v4.toInt = v1.toInt) ∧ (∀ c, c ≠ 31 → s c = A c) ∧ ∀ t, s 31 t = if v1.toInt.toNat ≤ t ∧ t < v2.toInt.toNat then A 31 (t + 1) else if v4.toInt.toNat < t ∧ t ≤ v1.toInt.toNat then A 31 (t - 1) else A 31 t := hq
    obtain ⟨e1, e2, q0, q1, q2, q3, q4⟩ := hq
    subst e1 e2
    show Ok _ (fX11_shift_c31_32 rec p2 (A 31 v1.toInt.toNat) v4 s)
    unfold fX11_shift_c31_32
    have hc4 := cl_i q1
    refine ok_ite (fun c => ?_) (fun c => ?_)
    · replace c := i_le.mp c
      refine ok_gin (by omega) (by omega) ?_
      refine ok_lt (fun s3 e3 => ?_)
      refine ok_some ⟨fun c hc => by rw [e3, up2_n hc]; exact q3 c hc, fun j => ?_⟩
      rw [e3, up2_is, show p2.toNatClampNeg = p2.toInt.toNat by omega]
      unfold SH
      by_cases w : j = p2.toInt.toNat
      · rw [if_pos ⟨rfl, w⟩, if_pos w]
      · rw [if_neg (fun z => w z.2), if_neg w, q4 j]
        by_cases z : v1.toInt.toNat ≤ j ∧ j < p2.toInt.toNat
        · rw [if_pos z, if_pos z]
        · rw [if_neg z, if_neg z]
          by_cases y : p2.toInt.toNat < j ∧ j ≤ v1.toInt.toNat
          · rw [if_pos y, if_pos (by omega)]
          · rw [if_neg y, if_neg (by omega)]
    · replace c := i_nle.mp c
      have f1 := sub_c (a := v4) (b := (1 : Int32)) 1 (by decide) (by omega) (by omega)
      refine ok_lt (fun x4 e4 => ?_)
      rw [← e4] at f1
      have hcx := cl_i (i := x4) (by omega)
      refine ok_gin (by omega) (by omega) ?_
      refine ok_lt (fun x6 e6 => ?_)
      refine ok_gin (by omega) (by omega) ?_
      refine ok_lt (fun s8 e8 => ?_)
      refine ok_lt (fun x9 e9 => ?_)
      replace e9 : x9.toInt = v4.toInt + (-1) := by rw [e9]; exact add_c (-1) (by decide) (by omega) (by omega)
      refine hrec (p2, A 31 v1.toInt.toNat, x9, s8) ⟨rfl, rfl, by show x9.toInt ≤ v1.toInt; omega, by show 0 ≤ x9.toInt; omega, by show p2.toInt ≤ x9.toInt ∨ x9.toInt = v1.toInt; omega, fun c hc => by show s8 c = A c; rw [e8, up2_n hc]; exact q3 c hc, fun t => ?_⟩ (show x9.toInt.toNat < v4.toInt.toNat by omega)
      show s8 31 t = if v1.toInt.toNat ≤ t ∧ t < p2.toInt.toNat then A 31 (t + 1) else if x9.toInt.toNat < t ∧ t ≤ v1.toInt.toNat then A 31 (t - 1) else A 31 t
      rw [e8, up2_is, show v4.toNatClampNeg = v4.toInt.toNat by omega, e6, q4, q4]
      by_cases w : t = v4.toInt.toNat
      · rw [if_pos ⟨rfl, w⟩, if_neg (by omega), if_neg (by omega), if_neg (by omega), if_pos (by omega), show x4.toNatClampNeg = t - 1 by omega]
      · rw [if_neg (fun z => w z.2)]
        by_cases z : v1.toInt.toNat ≤ t ∧ t < p2.toInt.toNat
        · rw [if_pos z, if_pos z]
        · rw [if_neg z, if_neg z]
          by_cases y : v4.toInt.toNat < t ∧ t ≤ v1.toInt.toNat
          · rw [if_pos y, if_pos (by omega)]
          · rw [if_neg y, if_neg (by omega)]
  · refine ⟨rfl, rfl, by show v1.toInt ≤ v1.toInt; omega, a0, by show v2.toInt ≤ v1.toInt ∨ v1.toInt = v1.toInt; omega, fr, fun t => ?_⟩
    show s 31 t = if v1.toInt.toNat ≤ t ∧ t < v2.toInt.toNat then A 31 (t + 1) else if v1.toInt.toNat < t ∧ t ≤ v1.toInt.toNat then A 31 (t - 1) else A 31 t
    rw [hs t, if_neg (show ¬ (v1.toInt.toNat < t ∧ t ≤ v1.toInt.toNat) by omega)]
theorem c_sh31 {A : Sg} {v1 v2 : Int32} (a0 : 0 ≤ v1.toInt) (a1 : v1.toInt ≤ 11) (b0 : 0 ≤ v2.toInt) (b1 : v2.toInt ≤ 11) : Ok (fun r => (∀ c, c ≠ 31 → r c = A c) ∧ ∀ j, r 31 j = SH (A 31) v1.toInt.toNat v2.toInt.toNat j) (fX11_shift_c31 v1 v2 A) := by
  have k1 : (1 : Int32).toInt = 1 := by decide
  have hc1 := cl_i a0
  unfold fX11_shift_c31
  refine ok_gin (by omega) (by omega) ?_
  refine ok_lt (fun x2 ex2 => ?_)
  rw [show v1.toNatClampNeg = v1.toInt.toNat by omega] at ex2
  unfold LX11_shift_c31_7
  refine ok_loop (I := fun (q : Int32 × Int32 × Int32 × Int32 × Sg) => q.1 = v1 ∧ q.2.1 = v2 ∧ q.2.2.1 = A 31 v1.toInt.toNat ∧ v1.toInt ≤ q.2.2.2.1.toInt ∧ (q.2.2.2.1.toInt ≤ v2.toInt ∨ q.2.2.2.1.toInt = v1.toInt) ∧ (∀ c, c ≠ 31 → q.2.2.2.2 c = A c) ∧ ∀ t, q.2.2.2.2 31 t = if v1.toInt.toNat ≤ t ∧ t < q.2.2.2.1.toInt.toNat then A 31 (t + 1) else A 31 t) (m := fun (q : Int32 × Int32 × Int32 × Int32 × Sg) => (13 - q.2.2.2.1.toInt).toNat) _ ?_ ?_ _ ?_
  · intro q hq
    have := hq.2.2.2.1
    show (13 - q.2.2.2.1.toInt).toNat < 10000
    omega
  · intro rec q hq hrec
    obtain ⟨p1, p2, p3, v4, s⟩ := q
    replace hq : p1 = v1 ∧ p2 = v2 ∧ p3 = A 31 v1.toInt.toNat ∧ v1.toInt ≤ v4.toInt ∧ (v4.toInt ≤ v2.toInt ∨ v4.toInt = v1.toInt) ∧ (∀ c, c ≠ 31 → s c = A c) ∧ ∀ t, s 31 t = if v1.toInt.toNat ≤ t ∧ t < v4.toInt.toNat then A 31 (t + 1) else A 31 t := hq
    obtain ⟨e1, e2, e3, q0, q1, q2, q3⟩ := hq
    subst e1 e2 e3
    show Ok _ (fX11_shift_c31_7 rec p1 p2 (A 31 p1.toInt.toNat) v4 s)
    unfold fX11_shift_c31_7
    have hc4 := cl_i (i := v4) (by omega)
    refine ok_ite (fun c => ?_) (fun c => ?_)
    · replace c := i_le.mp c
      refine c_sh31_32 a0 a1 b0 b1 q2 (fun t => ?_)
      rw [q3 t]
      by_cases z : p1.toInt.toNat ≤ t ∧ t < v4.toInt.toNat
      · rw [if_pos z, if_pos (by omega)]
      · rw [if_neg z, if_neg (by omega)]
    · replace c := i_nle.mp c
      have f1 := add_c (a := v4) (b := (1 : Int32)) 1 k1 (by omega) (by omega)
      refine ok_lt (fun x2 e2 => ?_)
      rw [← e2] at f1
      have hcx := cl_i (i := x2) (by omega)
      refine ok_gin (by omega) (by omega) ?_
      refine ok_lt (fun x4 e4 => ?_)
      refine ok_gin (by omega) (by omega) ?_
      refine ok_lt (fun s6 e6 => ?_)
      refine ok_lt (fun x7 e7 => ?_)
      replace e7 : x7.toInt = v4.toInt + 1 := by rw [e7]; exact add_c 1 k1 (by omega) (by omega)
      refine hrec (p1, p2, A 31 p1.toInt.toNat, x7, s6) ⟨rfl, rfl, rfl, by show p1.toInt ≤ x7.toInt; omega, by show x7.toInt ≤ p2.toInt ∨ x7.toInt = p1.toInt; omega, fun c hc => by show s6 c = A c; rw [e6, up2_n hc]; exact q2 c hc, fun t => ?_⟩ (show (13 - x7.toInt).toNat < (13 - v4.toInt).toNat by omega)
      show s6 31 t = if p1.toInt.toNat ≤ t ∧ t < x7.toInt.toNat then A 31 (t + 1) else A 31 t
      rw [e6, up2_is, show v4.toNatClampNeg = v4.toInt.toNat by omega, e4, q3, q3]
      by_cases w : t = v4.toInt.toNat
      · rw [if_pos ⟨rfl, w⟩, if_neg (by omega), if_pos (by omega), show x2.toNatClampNeg = t + 1 by omega]
      · rw [if_neg (fun z => w z.2)]
        by_cases z : p1.toInt.toNat ≤ t ∧ t < v4.toInt.toNat
        · rw [if_pos z, if_pos (by omega)]
        · rw [if_neg z, if_neg (by omega)]
  · refine ⟨rfl, rfl, ex2, by show v1.toInt ≤ v1.toInt; omega, by show v1.toInt ≤ v2.toInt ∨ v1.toInt = v1.toInt; omega, fun _ _ => rfl, fun t => ?_⟩
    show A 31 t = if v1.toInt.toNat ≤ t ∧ t < v1.toInt.toNat then _ else _
    rw [if_neg (by omega)]
theorem c_sh32_32 {A s : Sg} {v1 v2 : Int32} (a0 : 0 ≤ v1.toInt) (a1 : v1.toInt ≤ 11) (b0 : 0 ≤ v2.toInt) (b1 : v2.toInt ≤ 11) (fr : ∀ c, c ≠ 32 → s c = A c) (hs : ∀ t, s 32 t = if v1.toInt.toNat ≤ t ∧ t < v2.toInt.toNat then A 32 (t + 1) else A 32 t) : Ok (fun r => (∀ c, c ≠ 32 → r c = A c) ∧ ∀ j, r 32 j = SH (A 32) v1.toInt.toNat v2.toInt.toNat j) (LX11_shift_c32_32 (v2, A 32 v1.toInt.toNat, v1, s)) := by
  have hc2 := cl_i b0
  unfold LX11_shift_c32_32
  refine ok_loop (I := fun (q : Int32 × Int32 × Int32 × Sg) => q.1 = v2 ∧ q.2.1 = A 32 v1.toInt.toNat ∧ q.2.2.1.toInt ≤ v1.toInt ∧ 0 ≤ q.2.2.1.toInt ∧ (v2.toInt ≤ q.2.2.1.toInt ∨ q.2.2.1.toInt = v1.toInt) ∧ (∀ c, c ≠ 32 → q.2.2.2 c = A c) ∧ ∀ t, q.2.2.2 32 t = if v1.toInt.toNat ≤ t ∧ t < v2.toInt.toNat then A 32 (t + 1) else if q.2.2.1.toInt.toNat < t ∧ t ≤ v1.toInt.toNat then A 32 (t - 1) else A 32 t) (m := fun (q : Int32 × Int32 × Int32 × Sg) => q.2.2.1.toInt.toNat) _ ?_ ?_ _ ?_
  · intro q hq
    have := hq.2.2.1
    show q.2.2.1.toInt.toNat < 10000
    omega
  · intro rec q hq hrec
    obtain ⟨p2, p3, v4, s⟩ := q
    replace hq : p2 = v2 ∧ p3 = A 32 v1.toInt.toNat ∧ v4.toInt ≤ v1.toInt ∧ 0 ≤ v4.toInt ∧ (v2.toInt ≤ v4.toInt ∨ v4.toInt = v1.toInt) ∧ (∀ c, c ≠ 32 → s c = A c) ∧ ∀ t, s 32 t = if v1.toInt.toNat ≤ t ∧ t < v2.toInt.toNat then A 32 (t + 1) else if v4.toInt.toNat < t ∧ t ≤ v1.toInt.toNat then A 32 (t - 1) else A 32 t := hq
    obtain ⟨e1, e2, q0, q1, q2, q3, q4⟩ := hq
    subst e1 e2
    show Ok _ (fX11_shift_c32_32 rec p2 (A 32 v1.toInt.toNat) v4 s)
    unfold fX11_shift_c32_32
    have hc4 := cl_i q1
    refine ok_ite (fun c => ?_) (fun c => ?_)
    · replace c := i_le.mp c
      refine ok_gin (by omega) (by omega) ?_
      refine ok_lt (fun s3 e3 => ?_)
      refine ok_some ⟨fun c hc => by rw [e3, up2_n hc]; exact q3 c hc, fun j => ?_⟩
      rw [e3, up2_is, show p2.toNatClampNeg = p2.toInt.toNat by omega]
      unfold SH
      by_cases w : j = p2.toInt.toNat
      · rw [if_pos ⟨rfl, w⟩, if_pos w]
      · rw [if_neg (fun z => w z.2), if_neg w, q4 j]
        by_cases z : v1.toInt.toNat ≤ j ∧ j < p2.toInt.toNat
        · rw [if_pos z, if_pos z]
        · rw [if_neg z, if_neg z]
          by_cases y : p2.toInt.toNat < j ∧ j ≤ v1.toInt.toNat
          · rw [if_pos y, if_pos (by omega)]
          · rw [if_neg y, if_neg (by omega)]
    · replace c := i_nle.mp c
      have f1 := sub_c (a := v4) (b := (1 : Int32)) 1 (by decide) (by omega) (by omega)
      refine ok_lt (fun x4 e4 => ?_)
      rw [← e4] at f1
      have hcx := cl_i (i := x4) (by omega)
      refine ok_gin (by omega) (by omega) ?_
      refine ok_lt (fun x6 e6 => ?_)
      refine ok_gin (by omega) (by omega) ?_
      refine ok_lt (fun s8 e8 => ?_)
      refine ok_lt (fun x9 e9 => ?_)
      replace e9 : x9.toInt = v4.toInt + (-1) := by rw [e9]; exact add_c (-1) (by decide) (by omega) (by omega)
      refine hrec (p2, A 32 v1.toInt.toNat, x9, s8) ⟨rfl, rfl, by show x9.toInt ≤ v1.toInt; omega, by show 0 ≤ x9.toInt; omega, by show p2.toInt ≤ x9.toInt ∨ x9.toInt = v1.toInt; omega, fun c hc => by show s8 c = A c; rw [e8, up2_n hc]; exact q3 c hc, fun t => ?_⟩ (show x9.toInt.toNat < v4.toInt.toNat by omega)
      show s8 32 t = if v1.toInt.toNat ≤ t ∧ t < p2.toInt.toNat then A 32 (t + 1) else if x9.toInt.toNat < t ∧ t ≤ v1.toInt.toNat then A 32 (t - 1) else A 32 t
      rw [e8, up2_is, show v4.toNatClampNeg = v4.toInt.toNat by omega, e6, q4, q4]
      by_cases w : t = v4.toInt.toNat
      · rw [if_pos ⟨rfl, w⟩, if_neg (by omega), if_neg (by omega), if_neg (by omega), if_pos (by omega), show x4.toNatClampNeg = t - 1 by omega]
      · rw [if_neg (fun z => w z.2)]
        by_cases z : v1.toInt.toNat ≤ t ∧ t < p2.toInt.toNat
        · rw [if_pos z, if_pos z]
        · rw [if_neg z, if_neg z]
          by_cases y : v4.toInt.toNat < t ∧ t ≤ v1.toInt.toNat
          · rw [if_pos y, if_pos (by omega)]
          · rw [if_neg y, if_neg (by omega)]
  · refine ⟨rfl, rfl, by show v1.toInt ≤ v1.toInt; omega, a0, by show v2.toInt ≤ v1.toInt ∨ v1.toInt = v1.toInt; omega, fr, fun t => ?_⟩
    show s 32 t = if v1.toInt.toNat ≤ t ∧ t < v2.toInt.toNat then A 32 (t + 1) else if v1.toInt.toNat < t ∧ t ≤ v1.toInt.toNat then A 32 (t - 1) else A 32 t
    rw [hs t, if_neg (show ¬ (v1.toInt.toNat < t ∧ t ≤ v1.toInt.toNat) by omega)]
theorem c_sh32 {A : Sg} {v1 v2 : Int32} (a0 : 0 ≤ v1.toInt) (a1 : v1.toInt ≤ 11) (b0 : 0 ≤ v2.toInt) (b1 : v2.toInt ≤ 11) : Ok (fun r => (∀ c, c ≠ 32 → r c = A c) ∧ ∀ j, r 32 j = SH (A 32) v1.toInt.toNat v2.toInt.toNat j) (fX11_shift_c32 v1 v2 A) := by
  have k1 : (1 : Int32).toInt = 1 := by decide
  have hc1 := cl_i a0
  unfold fX11_shift_c32
  refine ok_gin (by omega) (by omega) ?_
  refine ok_lt (fun x2 ex2 => ?_)
  rw [show v1.toNatClampNeg = v1.toInt.toNat by omega] at ex2
  unfold LX11_shift_c32_7
  refine ok_loop (I := fun (q : Int32 × Int32 × Int32 × Int32 × Sg) => q.1 = v1 ∧ q.2.1 = v2 ∧ q.2.2.1 = A 32 v1.toInt.toNat ∧ v1.toInt ≤ q.2.2.2.1.toInt ∧ (q.2.2.2.1.toInt ≤ v2.toInt ∨ q.2.2.2.1.toInt = v1.toInt) ∧ (∀ c, c ≠ 32 → q.2.2.2.2 c = A c) ∧ ∀ t, q.2.2.2.2 32 t = if v1.toInt.toNat ≤ t ∧ t < q.2.2.2.1.toInt.toNat then A 32 (t + 1) else A 32 t) (m := fun (q : Int32 × Int32 × Int32 × Int32 × Sg) => (13 - q.2.2.2.1.toInt).toNat) _ ?_ ?_ _ ?_
  · intro q hq
    have := hq.2.2.2.1
    show (13 - q.2.2.2.1.toInt).toNat < 10000
    omega
  · intro rec q hq hrec
    obtain ⟨p1, p2, p3, v4, s⟩ := q
    replace hq : p1 = v1 ∧ p2 = v2 ∧ p3 = A 32 v1.toInt.toNat ∧ v1.toInt ≤ v4.toInt ∧ (v4.toInt ≤ v2.toInt ∨ v4.toInt = v1.toInt) ∧ (∀ c, c ≠ 32 → s c = A c) ∧ ∀ t, s 32 t = if v1.toInt.toNat ≤ t ∧ t < v4.toInt.toNat then A 32 (t + 1) else A 32 t := hq
    obtain ⟨e1, e2, e3, q0, q1, q2, q3⟩ := hq
    subst e1 e2 e3
    show Ok _ (fX11_shift_c32_7 rec p1 p2 (A 32 p1.toInt.toNat) v4 s)
    unfold fX11_shift_c32_7
    have hc4 := cl_i (i := v4) (by omega)
    refine ok_ite (fun c => ?_) (fun c => ?_)
    · replace c := i_le.mp c
      refine c_sh32_32 a0 a1 b0 b1 q2 (fun t => ?_)
      rw [q3 t]
      by_cases z : p1.toInt.toNat ≤ t ∧ t < v4.toInt.toNat
      · rw [if_pos z, if_pos (by omega)]
      · rw [if_neg z, if_neg (by omega)]
    · replace c := i_nle.mp c
      have f1 := add_c (a := v4) (b := (1 : Int32)) 1 k1 (by omega) (by omega)
      refine ok_lt (fun x2 e2 => ?_)
      rw [← e2] at f1
      have hcx := cl_i (i := x2) (by omega)
      refine ok_gin (by omega) (by omega) ?_
      refine ok_lt (fun x4 e4 => ?_)
      refine ok_gin (by omega) (by omega) ?_
      refine ok_lt (fun s6 e6 => ?_)
      refine ok_lt (fun x7 e7 => ?_)
      replace e7 : x7.toInt = v4.toInt + 1 := by rw [e7]; exact add_c 1 k1 (by omega) (by omega)
      refine hrec (p1, p2, A 32 p1.toInt.toNat, x7, s6) ⟨rfl, rfl, rfl, by show p1.toInt ≤ x7.toInt; omega, by show x7.toInt ≤ p2.toInt ∨ x7.toInt = p1.toInt; omega, fun c hc => by show s6 c = A c; rw [e6, up2_n hc]; exact q2 c hc, fun t => ?_⟩ (show (13 - x7.toInt).toNat < (13 - v4.toInt).toNat by omega)
      show s6 32 t = if p1.toInt.toNat ≤ t ∧ t < x7.toInt.toNat then A 32 (t + 1) else A 32 t
      rw [e6, up2_is, show v4.toNatClampNeg = v4.toInt.toNat by omega, e4, q3, q3]
      by_cases w : t = v4.toInt.toNat
      · rw [if_pos ⟨rfl, w⟩, if_neg (by omega), if_pos (by omega), show x2.toNatClampNeg = t + 1 by omega]
      · rw [if_neg (fun z => w z.2)]
        by_cases z : p1.toInt.toNat ≤ t ∧ t < v4.toInt.toNat
        · rw [if_pos z, if_pos (by omega)]
        · rw [if_neg z, if_neg (by omega)]
  · refine ⟨rfl, rfl, ex2, by show v1.toInt ≤ v1.toInt; omega, by show v1.toInt ≤ v2.toInt ∨ v1.toInt = v1.toInt; omega, fun _ _ => rfl, fun t => ?_⟩
    show A 32 t = if v1.toInt.toNat ≤ t ∧ t < v1.toInt.toNat then _ else _
    rw [if_neg (by omega)]
theorem m_sh_22 {A : Sg} {lm : Lg} {v1 v2 st : Int32} (a0 : 0 ≤ v1.toInt) (a1 : v1.toInt ≤ 11) (b0 : 0 ≤ v2.toInt) (b1 : v2.toInt ≤ 11) (hst : (v1.toInt < v2.toInt ∧ st.toInt = 1) ∨ (v2.toInt ≤ v1.toInt ∧ st.toInt = -1)) : Ok (fun r => r.2 = lm ∧ (∀ c, c ≠ 3 → r.1 c = A c) ∧ ∀ j, r.1 3 j = SH (A 3) v1.toInt.toNat v2.toInt.toNat j) (LX12_shift_22 (v2, A 3 v1.toInt.toNat, st, v1, A, lm)) := by
  have hc2 := cl_i b0
  unfold LX12_shift_22
  refine ok_loop (I := fun (q : Int32 × Int32 × Int32 × Int32 × Sg × Lg) => q.1 = v2 ∧ q.2.1 = A 3 v1.toInt.toNat ∧ q.2.2.1 = st ∧ q.2.2.2.2.2 = lm ∧ ((v1.toInt < v2.toInt ∧ v1.toInt ≤ q.2.2.2.1.toInt ∧ q.2.2.2.1.toInt ≤ v2.toInt) ∨ (v2.toInt ≤ v1.toInt ∧ v2.toInt ≤ q.2.2.2.1.toInt ∧ q.2.2.2.1.toInt ≤ v1.toInt)) ∧ (∀ c, c ≠ 3 → q.2.2.2.2.1 c = A c) ∧ ∀ t, q.2.2.2.2.1 3 t = if v1.toInt.toNat ≤ t ∧ t < q.2.2.2.1.toInt.toNat then A 3 (t + 1) else if q.2.2.2.1.toInt.toNat < t ∧ t ≤ v1.toInt.toNat then A 3 (t - 1) else A 3 t) (m := fun (q : Int32 × Int32 × Int32 × Int32 × Sg × Lg) => (v2.toInt - q.2.2.2.1.toInt).natAbs) _ ?_ ?_ _ ?_
  · intro q hq
    have := hq.2.2.2.2.1
    show (v2.toInt - q.2.2.2.1.toInt).natAbs < 10000
    omega
  · intro rec q hq hrec
    obtain ⟨p2, p3, p4, v5, s, l⟩ := q
    replace hq : p2 = v2 ∧ p3 = A 3 v1.toInt.toNat ∧ p4 = st ∧ l = lm ∧ ((v1.toInt < v2.toInt ∧ v1.toInt ≤ v5.toInt ∧ v5.toInt ≤ v2.toInt) ∨ (v2.toInt ≤ v1.toInt ∧ v2.toInt ≤ v5.toInt ∧ v5.toInt ≤ v1.toInt)) ∧ (∀ c, c ≠ 3 → s c = A c) ∧ ∀ t, s 3 t = if v1.toInt.toNat ≤ t ∧ t < v5.toInt.toNat then A 3 (t + 1) else if v5.toInt.toNat < t ∧ t ≤ v1.toInt.toNat then A 3 (t - 1) else A 3 t := hq
    obtain ⟨e1, e2, e3, e4, q1, q3, q4⟩ := hq
    subst e1 e2 e3 e4
    show Ok _ (fX12_shift_22 rec p2 (A 3 v1.toInt.toNat) p4 v5 s l)
    unfold fX12_shift_22
    have hc5 := cl_i (i := v5) (by omega)
    refine ok_ite (fun c => ?_) (fun c => ?_)
    · replace c := i_eq.mp c
      refine ok_gin (by omega) (by omega) ?_
      refine ok_lt (fun s3 e3 => ?_)
      refine ok_some ⟨rfl, fun c hc => by show s3 c = A c; rw [e3, up2_n hc]; exact q3 c hc, fun j => ?_⟩
      show s3 3 j = _
      rw [e3, up2_is, show p2.toNatClampNeg = p2.toInt.toNat by omega]
      unfold SH
      by_cases w : j = p2.toInt.toNat
      · rw [if_pos ⟨rfl, w⟩, if_pos w]
      · rw [if_neg (fun z => w z.2), if_neg w, q4 j, c]
    · replace c := i_ne.mp c
      have f1 := add_i (a := v5) (b := p4) (by omega) (by omega)
      refine ok_lt (fun x4 e4 => ?_)
      rw [← e4] at f1
      have hcx := cl_i (i := x4) (by omega)
      refine ok_gin (by omega) (by omega) ?_
      refine ok_lt (fun x6 e6 => ?_)
      refine ok_gin (by omega) (by omega) ?_
      refine ok_lt (fun s8 e8 => ?_)
      refine ok_lt (fun x9 e9 => ?_)
      rw [← e4] at e9
      subst e9
      refine hrec (p2, A 3 v1.toInt.toNat, p4, x9, s8, l) ⟨rfl, rfl, rfl, rfl, by show (v1.toInt < p2.toInt ∧ v1.toInt ≤ x9.toInt ∧ x9.toInt ≤ p2.toInt) ∨ (p2.toInt ≤ v1.toInt ∧ p2.toInt ≤ x9.toInt ∧ x9.toInt ≤ v1.toInt); omega, fun c hc => by show s8 c = A c; rw [e8, up2_n hc]; exact q3 c hc, fun t => ?_⟩ (show (p2.toInt - x9.toInt).natAbs < (p2.toInt - v5.toInt).natAbs by omega)
      show s8 3 t = if v1.toInt.toNat ≤ t ∧ t < x9.toInt.toNat then A 3 (t + 1) else if x9.toInt.toNat < t ∧ t ≤ v1.toInt.toNat then A 3 (t - 1) else A 3 t
      rw [e8, up2_is, show v5.toNatClampNeg = v5.toInt.toNat by omega, e6, q4, q4, show x9.toNatClampNeg = x9.toInt.toNat by omega]
      by_cases w : t = v5.toInt.toNat
      · rw [if_pos ⟨rfl, w⟩, if_neg (by omega), if_neg (by omega)]
        rcases hst with z | z
        · rw [if_pos (by omega), show x9.toInt.toNat = t + 1 by omega]
        · rw [if_neg (by omega), if_pos (by omega), show x9.toInt.toNat = t - 1 by omega]
      · rw [if_neg (fun z => w z.2)]
        rcases hst with z | z
        · by_cases y : v1.toInt.toNat ≤ t ∧ t < v5.toInt.toNat
          · rw [if_pos y, if_pos (by omega)]
          · rw [if_neg y, if_neg (by omega), if_neg (by omega), if_neg (by omega)]
        · by_cases y : v5.toInt.toNat < t ∧ t ≤ v1.toInt.toNat
          · rw [if_neg (show ¬ (v1.toInt.toNat ≤ t ∧ t < v5.toInt.toNat) by omega), if_pos y, if_neg (show ¬ (v1.toInt.toNat ≤ t ∧ t < x9.toInt.toNat) by omega), if_pos (by omega)]
          · rw [if_neg (show ¬ (v1.toInt.toNat ≤ t ∧ t < v5.toInt.toNat) by omega), if_neg y, if_neg (show ¬ (v1.toInt.toNat ≤ t ∧ t < x9.toInt.toNat) by omega), if_neg (by omega)]
  · refine ⟨rfl, rfl, rfl, rfl, by show (v1.toInt < v2.toInt ∧ v1.toInt ≤ v1.toInt ∧ v1.toInt ≤ v2.toInt) ∨ (v2.toInt ≤ v1.toInt ∧ v2.toInt ≤ v1.toInt ∧ v1.toInt ≤ v1.toInt); omega, fun _ _ => rfl, fun t => ?_⟩
    show A 3 t = if v1.toInt.toNat ≤ t ∧ t < v1.toInt.toNat then _ else if v1.toInt.toNat < t ∧ t ≤ v1.toInt.toNat then _ else _
    rw [if_neg (by omega), if_neg (by omega)]
theorem m_sh {A : Sg} {lm : Lg} {v1 v2 : Int32} (a0 : 0 ≤ v1.toInt) (a1 : v1.toInt ≤ 11) (b0 : 0 ≤ v2.toInt) (b1 : v2.toInt ≤ 11) : Ok (fun r => r.2 = lm ∧ (∀ c, c ≠ 3 → r.1 c = A c) ∧ ∀ j, r.1 3 j = SH (A 3) v1.toInt.toNat v2.toInt.toNat j) (fX12_shift v1 v2 A lm) := by
  have hc1 := cl_i a0
  unfold fX12_shift
  refine ok_gin (by omega) (by omega) ?_
  refine ok_lt (fun x2 e2 => ?_)
  rw [show v1.toNatClampNeg = v1.toInt.toNat by omega] at e2
  subst e2
  refine ok_ite (fun c => ?_) (fun c => ?_)
  · replace c := i_le.mp c
    unfold fX12_shift_17
    exact m_sh_22 a0 a1 b0 b1 (Or.inr ⟨c, by decide⟩)
  · replace c := i_nle.mp c
    unfold fX12_shift_17
    exact m_sh_22 a0 a1 b0 b1 (Or.inl ⟨c, by decide⟩)
/-! the order in hand: begin, stand, order, move, turn -/
/-- nobody stands twice -/
def ND (sm : Sg) : Prop := ∀ i j : Nat, i < j → (j : Int) < (sm 0 4).toInt → ¬ sm 3 i = sm 3 j
def HD (sx sm : Sg) : Prop := HR sx sm ∧ ND sm
theorem isPlace_is {v : Int32} {sg : Sg} : fX5_isPlace v sg = some (if 0 ≤ v.toInt ∧ v.toInt < (sg 5 0).toInt then 1 else 0, sg) := by
  have k0 : (0 : Int32).toInt = 0 := by decide
  unfold fX5_isPlace
  by_cases c : v < 0
  · rw [if_pos c, if_neg (fun z => by rw [i_lt] at c; omega)]
  · rw [if_neg c]
    by_cases d : sg 5 0 ≤ v
    · rw [if_pos d, if_neg (fun z => by rw [i_le] at d; omega)]
    · rw [if_neg d, if_pos ⟨by rw [i_lt] at c; omega, by rw [i_le] at d; omega⟩]
theorem isPl_m {v : Int32} {sg : Sg} {lg : Lg} (h0 : 0 ≤ (sg 0 4).toInt) (h1 : (sg 0 4).toInt ≤ 12) : fX12_isIn v.toInt64 (0 : Int64) (((sg 0 4) - (1 : Int32)).toInt64) sg lg = some (if 0 ≤ v.toInt ∧ v.toInt < (sg 0 4).toInt then 1 else 0, sg, lg) := by
  have f := sub_c (a := sg 0 4) (b := (1 : Int32)) 1 (by decide) (by omega) (by omega)
  have j0 : (0 : Int64).toInt = 0 := by decide
  unfold fX12_isIn
  by_cases c : v.toInt64 < (0 : Int64)
  · rw [if_pos c, if_neg (fun z => by rw [j_lt, Int32.toInt_toInt64] at c; omega)]
  · rw [if_neg c]
    by_cases d : ((sg 0 4) - (1 : Int32)).toInt64 < v.toInt64
    · rw [if_pos d, if_neg (fun z => by rw [j_lt, Int32.toInt_toInt64, Int32.toInt_toInt64] at d; omega)]
    · rw [if_neg d, if_pos ⟨by rw [j_lt, Int32.toInt_toInt64] at c; omega, by rw [j_lt, Int32.toInt_toInt64, Int32.toInt_toInt64] at d; omega⟩]
theorem val_order {v : Int32} {sx sm sx' sm' : Sg} {lm lm' : Lg} {r r' : Int64} (hI : IC sx) (hM : IM sm lm) (hr : HD sx sm) (e1 : fX11_order v sx = some (r, sx')) (e2 : fX12_order v sm lm = some (r', sm', lm')) : r = r' ∧ HD sx' sm' := by
  have q := rdM0_4 hM
  have es := hr.1.1
  unfold fX11_order at e1
  rw [isPlace_is, bnd2_s] at e1
  unfold fX12_order at e2
  rw [isPl_m q.1 q.2, bnd3_s, ← es] at e2
  by_cases c : 0 ≤ v.toInt ∧ v.toInt < (sx 5 0).toInt
  · rw [if_pos c, ite1] at e1 e2
    replace e1 := p_gin e1
    replace e2 := p_gin e2
    have hc := cl_i c.1
    have eh := hr.1.2 v.toNatClampNeg (by omega)
    cases e1
    cases e2
    exact ⟨by rw [eh], hr⟩
  · rw [if_neg c, ite0] at e1 e2
    cases e1
    cases e2
    exact ⟨rfl, hr⟩
theorem val_begin {sx sm sx' sm' : Sg} {lm lm' : Lg} {r r' : Int64} (hr : HD sx sm) (e1 : fX11_begin sx = some (r, sx')) (e2 : fX12_begin sm lm = some (r', sm', lm')) : r = r' ∧ HD sx' sm' := by
  unfold fX11_begin at e1
  obtain ⟨x1, c1, e1⟩ := p_lt e1
  obtain ⟨s1, d1, e1⟩ := p_lt e1
  unfold fX12_begin at e2
  obtain ⟨x2, c2, e2⟩ := p_lt e2
  obtain ⟨s2, d2, e2⟩ := p_lt e2
  cases e1
  cases e2
  have k0 : (0 : Int32).toInt = 0 := by decide
  have z1 : sx' 5 0 = 0 := by rw [d1, up2_e]
  have z2 : sm' 0 4 = 0 := by rw [d2, up2_e]
  refine ⟨by rw [c1, c2, hr.1.1], ⟨by rw [z1, z2], fun i hi => ?_⟩, fun i j hij hj => ?_⟩
  · rw [z1, k0] at hi; omega
  · rw [z2, k0] at hj; omega
/-- one of the hand is moved, on both sides -/
theorem hd_sh {sx sm sx' sm' : Sg} {a b : Nat} (h : HD sx sm) (e5 : sx' 5 0 = sx 5 0) (e04 : sm' 0 4 = sm 0 4) (ha : (a : Int) < (sx 5 0).toInt) (hb : (b : Int) < (sx 5 0).toInt) (e31 : ∀ j, sx' 31 j = SH (sx 31) a b j) (e3 : ∀ j, sm' 3 j = SH (sm 3) a b j) : HD sx' sm' := by
  obtain ⟨⟨h1, h2⟩, h3⟩ := h
  refine ⟨⟨by rw [e5, e04, h1], fun i hi => ?_⟩, fun i j hij hj => ?_⟩
  · rw [e5] at hi
    rw [e31 i, e3 i]
    unfold SH
    by_cases c1 : i = b
    · rw [if_pos c1, if_pos c1]; exact h2 a ha
    · rw [if_neg c1, if_neg c1]
      by_cases c2 : a ≤ i ∧ i < b
      · rw [if_pos c2, if_pos c2]; exact h2 (i + 1) (by omega)
      · rw [if_neg c2, if_neg c2]
        by_cases c3 : b < i ∧ i ≤ a
        · rw [if_pos c3, if_pos c3]; exact h2 (i - 1) (by omega)
        · rw [if_neg c3, if_neg c3]; exact h2 i hi
  · rw [e04, ← h1] at hj
    -- where it came from
    have src : ∀ i, ∃ s : Nat, SH (sm 3) a b i = sm 3 s ∧ s = (if i = b then a else if a ≤ i ∧ i < b then i + 1 else if b < i ∧ i ≤ a then i - 1 else i) := by
      intro i
      refine ⟨_, ?_, rfl⟩
      unfold SH
      by_cases c1 : i = b
      · rw [if_pos c1, if_pos c1]
      · rw [if_neg c1, if_neg c1]
        by_cases c2 : a ≤ i ∧ i < b
        · rw [if_pos c2, if_pos c2]
        · rw [if_neg c2, if_neg c2]
          by_cases c3 : b < i ∧ i ≤ a
          · rw [if_pos c3, if_pos c3]
          · rw [if_neg c3, if_neg c3]
    obtain ⟨s, s1, s2⟩ := src i
    obtain ⟨t, t1, t2⟩ := src j
    rw [e3 i, e3 j, s1, t1]
    have sl : (s : Int) < (sm 0 4).toInt := by rw [← h1, s2]; split <;> (try split) <;> (try split) <;> omega
    have tl : (t : Int) < (sm 0 4).toInt := by rw [← h1, t2]; split <;> (try split) <;> (try split) <;> omega
    have ne : s ≠ t := by
      rw [s2, t2]
      split <;> (try split) <;> (try split) <;> (try split) <;> (try split) <;> (try split) <;> omega
    rcases Nat.lt_or_ge s t with z | z
    · exact h3 s t z tl
    · exact fun y => h3 t s (by omega) sl y.symm
theorem val_move {a b : Int32} {sx sm sx' sm' : Sg} {lm lm' : Lg} {r r' : Int64} (hI : IC sx) (hM : IM sm lm) (hr : HD sx sm) (e1 : fX11_move a b sx = some (r, sx')) (e2 : fX12_move a b sm lm = some (r', sm', lm')) : r = r' ∧ HD sx' sm' := by
  have q := rdM0_4 hM
  have es := hr.1.1
  unfold fX11_move at e1
  rw [isPlace_is, bnd2_s] at e1
  unfold fX12_move at e2
  rw [isPl_m q.1 q.2, bnd3_s, ← es] at e2
  rw [← es] at q
  by_cases c : 0 ≤ a.toInt ∧ a.toInt < (sx 5 0).toInt
  · rw [if_pos c, ite1] at e1 e2
    rw [isPlace_is, bnd2_s] at e1
    rw [es, isPl_m (by rw [← es]; exact q.1) (by rw [← es]; exact q.2), bnd3_s, ← es] at e2
    by_cases d : 0 ≤ b.toInt ∧ b.toInt < (sx 5 0).toInt
    · rw [if_pos d, ite1] at e1 e2
      obtain ⟨s1, c1, e1⟩ := p_bnd1 e1
      obtain ⟨s2, l2, c2, e2⟩ := p_bnd2 e2
      obtain ⟨f1, f2⟩ := ok_at (c_sh31 c.1 (by omega) d.1 (by omega)) c1
      obtain ⟨g0, g1, g2⟩ := ok_at (m_sh c.1 (by omega) d.1 (by omega)) c2
      cases e1
      cases e2
      refine ⟨rfl, hd_sh hr (by rw [f1 5 (by decide)]) ?_ (a := a.toInt.toNat) (b := b.toInt.toNat) (by omega) (by omega) f2 g2⟩
      have := g1 0 (by decide)
      exact congrFun this 4
    · rw [if_neg d, ite0] at e1 e2
      cases e1
      cases e2
      exact ⟨rfl, hr⟩
  · rw [if_neg c, ite0] at e1 e2
    cases e1
    cases e2
    exact ⟨rfl, hr⟩
/-- who stands -/
theorem holds_is {v : Int32} {sg : Sg} (h0 : 0 ≤ (sg 5 0).toInt) (h1 : (sg 5 0).toInt ≤ 12) : Ok (fun q => q.2 = sg ∧ ((q.1 = 1 ∧ ∃ i : Nat, (i : Int) < (sg 5 0).toInt ∧ sg 31 i = v) ∨ (q.1 = 0 ∧ ∀ i : Nat, (i : Int) < (sg 5 0).toInt → ¬ sg 31 i = v))) (fX5_holds v sg) := by
  have k0 : (0 : Int32).toInt = 0 := by decide
  unfold fX5_holds LX5_holds_2
  refine ok_loop (I := fun (q : Int32 × Int32 × Sg) => q.1 = v ∧ q.2.2 = sg ∧ 0 ≤ q.2.1.toInt ∧ q.2.1.toInt ≤ (sg 5 0).toInt ∧ ∀ i : Nat, (i : Int) < q.2.1.toInt → ¬ sg 31 i = v) (m := fun (q : Int32 × Int32 × Sg) => (13 - q.2.1.toInt).toNat) _ ?_ ?_ _ ?_
  · intro q hq
    have := hq.2.2.1
    show (13 - q.2.1.toInt).toNat < 10000
    omega
  · intro rec q hq hrec
    obtain ⟨p1, v2, s⟩ := q
    replace hq : p1 = v ∧ s = sg ∧ 0 ≤ v2.toInt ∧ v2.toInt ≤ (sg 5 0).toInt ∧ ∀ i : Nat, (i : Int) < v2.toInt → ¬ sg 31 i = v := hq
    obtain ⟨a1, a2, q0, q1, q2⟩ := hq
    subst a1 a2
    show Ok _ (fX5_holds_2 rec p1 v2 s)
    unfold fX5_holds_2
    have hc := cl_i q0
    refine ok_ite (fun c => ?_) (fun c => ?_)
    · replace c := i_le.mp c
      exact ok_some ⟨rfl, Or.inr ⟨rfl, fun i hi => q2 i (by omega)⟩⟩
    · replace c := i_nle.mp c
      refine ok_gin (by omega) (by omega) ?_
      refine ok_ite (fun d => ?_) (fun d => ?_)
      · exact ok_some ⟨rfl, Or.inl ⟨rfl, v2.toNatClampNeg, by omega, d⟩⟩
      · refine ok_lt (fun x4 e4 => ?_)
        replace e4 : x4.toInt = v2.toInt + 1 := by rw [e4]; exact add_c 1 (by decide) (by omega) (by omega)
        refine hrec (p1, x4, s) ⟨rfl, rfl, by show 0 ≤ x4.toInt; omega, by show x4.toInt ≤ (s 5 0).toInt; omega, fun i hi => ?_⟩ (show (13 - x4.toInt).toNat < (13 - v2.toInt).toNat by omega)
        replace hi : (i : Int) < x4.toInt := hi
        by_cases w : i = v2.toNatClampNeg
        · rw [w]; exact d
        · exact q2 i (by omega)
  · exact ⟨rfl, rfl, by show 0 ≤ (0 : Int32).toInt; omega, by show (0 : Int32).toInt ≤ (sg 5 0).toInt; omega, fun i hi => by have hi' : (i : Int) < (0 : Int32).toInt := hi; omega⟩
theorem stands_is {v : Int32} {sg : Sg} {lg : Lg} (h0 : 0 ≤ (sg 0 4).toInt) (h1 : (sg 0 4).toInt ≤ 12) : Ok (fun q => q.2 = (sg, lg) ∧ ((q.1 = 1 ∧ ∃ i : Nat, (i : Int) < (sg 0 4).toInt ∧ sg 3 i = v) ∨ (q.1 = 0 ∧ ∀ i : Nat, (i : Int) < (sg 0 4).toInt → ¬ sg 3 i = v))) (fX12_stands v sg lg) := by
  have k0 : (0 : Int32).toInt = 0 := by decide
  unfold fX12_stands LX12_stands_4
  refine ok_loop (I := fun (q : Int32 × Int32 × Int32 × Sg × Lg) => q.1 = v ∧ q.2.2.2 = (sg, lg) ∧ 0 ≤ q.2.2.1.toInt ∧ q.2.2.1.toInt ≤ (sg 0 4).toInt ∧ ((q.2.1 = 1 ∧ ∃ i : Nat, (i : Int) < (sg 0 4).toInt ∧ sg 3 i = v) ∨ (q.2.1 = 0 ∧ ∀ i : Nat, (i : Int) < q.2.2.1.toInt → ¬ sg 3 i = v))) (m := fun (q : Int32 × Int32 × Int32 × Sg × Lg) => (13 - q.2.2.1.toInt).toNat) _ ?_ ?_ _ ?_
  · intro q hq
    have := hq.2.2.1
    show (13 - q.2.2.1.toInt).toNat < 10000
    omega
  · intro rec q hq hrec
    obtain ⟨p1, w, v3, s, l⟩ := q
    replace hq : p1 = v ∧ (s, l) = (sg, lg) ∧ 0 ≤ v3.toInt ∧ v3.toInt ≤ (sg 0 4).toInt ∧ ((w = 1 ∧ ∃ i : Nat, (i : Int) < (sg 0 4).toInt ∧ sg 3 i = v) ∨ (w = 0 ∧ ∀ i : Nat, (i : Int) < v3.toInt → ¬ sg 3 i = v)) := hq
    obtain ⟨a1, a2, q0, q1, q2⟩ := hq
    obtain ⟨b1, b2⟩ := Prod.mk.inj a2
    subst a1 b1 b2
    show Ok _ (fX12_stands_4 rec p1 w v3 s l)
    unfold fX12_stands_4
    have hc := cl_i q0
    have go : ∀ w' : Int32, v3.toInt < (s 0 4).toInt → ((w' = 1 ∧ ∃ i : Nat, (i : Int) < (s 0 4).toInt ∧ s 3 i = p1) ∨ (w' = 0 ∧ ∀ i : Nat, (i : Int) < v3.toInt + 1 → ¬ s 3 i = p1)) → Ok (fun q => q.2 = (s, l) ∧ ((q.1 = 1 ∧ ∃ i : Nat, (i : Int) < (s 0 4).toInt ∧ s 3 i = p1) ∨ (q.1 = 0 ∧ ∀ i : Nat, (i : Int) < (s 0 4).toInt → ¬ s 3 i = p1))) (fX12_stands_31 rec p1 v3 w' s l) := by
      intro w' g0 g1
      unfold fX12_stands_31
      refine ok_lt (fun x e => ?_)
      replace e : x.toInt = v3.toInt + 1 := by rw [e]; exact add_c 1 (by decide) (by omega) (by omega)
      refine hrec (p1, w', x, s, l) ⟨rfl, rfl, by show 0 ≤ x.toInt; omega, by show x.toInt ≤ (s 0 4).toInt; omega, ?_⟩ (show (13 - x.toInt).toNat < (13 - v3.toInt).toNat by omega)
      show (w' = 1 ∧ _) ∨ (w' = 0 ∧ ∀ i : Nat, (i : Int) < x.toInt → _)
      rw [e]; exact g1
    refine ok_ite (fun c => ?_) (fun c => ?_)
    · replace c := i_le.mp c
      rcases q2 with ⟨z1, z2⟩ | ⟨z1, z2⟩
      · rw [z1, gz1]
        exact ok_some ⟨rfl, Or.inl ⟨rfl, z2⟩⟩
      · rw [z1, gz0]
        exact ok_some ⟨rfl, Or.inr ⟨rfl, fun i hi => z2 i (by omega)⟩⟩
    · replace c := i_nle.mp c
      refine ok_ite (fun d => ?_) (fun d => ?_)
      · refine ok_gin (by omega) (by omega) ?_
        refine ok_ite (fun f => ?_) (fun f => ?_)
        · unfold fX12_stands_26
          exact go 1 c (Or.inl ⟨rfl, v3.toNatClampNeg, by omega, f⟩)
        · refine go 0 c (Or.inr ⟨rfl, fun i hi => ?_⟩)
          rcases q2 with ⟨z1, z2⟩ | ⟨z1, z2⟩
          · rw [z1] at d; exact absurd d (by decide)
          · by_cases w : i = v3.toNatClampNeg
            · rw [w]; exact f
            · exact z2 i (by omega)
      · unfold fX12_stands_26
        rcases q2 with ⟨z1, z2⟩ | ⟨z1, z2⟩
        · exact go 1 c (Or.inl ⟨rfl, z2⟩)
        · exact absurd z1 d
  · exact ⟨rfl, rfl, by show 0 ≤ (0 : Int32).toInt; omega, by show (0 : Int32).toInt ≤ (sg 0 4).toInt; omega, Or.inr ⟨rfl, fun i hi => by have hi' : (i : Int) < (0 : Int32).toInt := hi; omega⟩⟩
/-! stand, and turn -/
theorem val_stand {v : Int32} {sx sm sx' sm' : Sg} {lm lm' : Lg} {r r' : Int64} (hI : IC sx) (hM : IM sm lm) (hF : FRel sx sm) (hr : HD sx sm) (e1 : fX11_stand v sx = some (r, sx')) (e2 : fX12_stand v sm lm = some (r', sm', lm')) : r = r' ∧ HD sx' sm' := by
  have q := rdM0_4 hM
  have es := hr.1.1
  have hz : sm 1 0 = sx 1 0 := hF.1.1
  have k12 : (12 : Int32).toInt = 12 := by decide
  unfold fX11_stand at e1
  unfold fX12_stand at e2
  by_cases c : 0 ≤ v.toInt ∧ v.toInt < (sx 1 0).toInt
  · rw [has1 c.1 c.2, bnd2_s, ite1] at e1
    rw [isHen1 hM.2.2 c.1 (by rw [hz]; exact c.2), bnd3_s, ite1] at e2
    obtain ⟨y5, s6, c6, d1⟩ := p_bnd2 e1
    obtain ⟨f1, f2⟩ := ok_at (holds_is (v := v) (sg := sx) (by rw [es]; exact q.1) (by rw [es]; exact q.2)) c6
    replace f1 : s6 = sx := f1
    replace f2 : (y5 = 1 ∧ ∃ i : Nat, (i : Int) < (sx 5 0).toInt ∧ sx 31 i = v) ∨ (y5 = 0 ∧ ∀ i : Nat, (i : Int) < (sx 5 0).toInt → ¬ sx 31 i = v) := f2
    rw [f1] at d1
    obtain ⟨y6, s7, l8, c8, d2⟩ := p_bnd3 e2
    obtain ⟨g1, g2⟩ := ok_at (stands_is (v := v) (sg := sm) (lg := lm) q.1 q.2) c8
    obtain ⟨g1a, g1b⟩ := Prod.mk.inj (show (s7, l8) = (sm, lm) from g1)
    replace g2 : (y6 = 1 ∧ ∃ i : Nat, (i : Int) < (sm 0 4).toInt ∧ sm 3 i = v) ∨ (y6 = 0 ∧ ∀ i : Nat, (i : Int) < (sm 0 4).toInt → ¬ sm 3 i = v) := g2
    rw [g1a, g1b] at d2
    rcases f2 with ⟨a1, i, a2, a3⟩ | ⟨a1, a2⟩
    · rw [a1, ite1] at d1
      cases d1
      rcases g2 with ⟨b1, b2⟩ | ⟨b1, b2⟩
      · rw [b1, ite1] at d2
        cases d2
        exact ⟨rfl, hr⟩
      · exact absurd (by rw [← hr.1.2 i a2]; exact a3) (b2 i (by rw [← es]; exact a2))
    · rw [a1, ite0] at d1
      rcases g2 with ⟨b1, i, b2, b3⟩ | ⟨b1, b2⟩
      · exact absurd (by rw [hr.1.2 i (by rw [es]; exact b2)]; exact b3) (a2 i (by rw [es]; exact b2))
      · rw [b1, ite0] at d2
        by_cases d : (sx 5 0).toInt < 12
        · rw [if_pos (by rw [i_lt]; omega)] at d1
          have de : (sx 5 0).toInt = (sm 0 4).toInt := by rw [es]
          rw [if_neg (by rw [i_eq]; omega)] at d2
          obtain ⟨s10, c10, d1⟩ := p_bnd1 d1
          obtain ⟨ra, er, r1, r2, r3, r4⟩ := append_is (v := v) (sg := sx) (by omega) (by omega)
          rw [er] at c10
          cases c10
          cases d1
          replace d2 := p_gin d2
          obtain ⟨s13, e13, d2⟩ := p_lt d2
          obtain ⟨x14, e14, d2⟩ := p_lt d2
          obtain ⟨s15, e15, d2⟩ := p_lt d2
          cases d2
          have hc := cl_i (i := sm 0 4) q.1
          have e04 : s13 0 4 = sm 0 4 := by rw [e13, up2_n (by decide)]
          rw [e04] at e14
          replace e14 : x14.toInt = (sm 0 4).toInt + 1 := by rw [e14]; exact add_c 1 (by decide) (by omega) (by omega)
          have z04 : sm' 0 4 = x14 := by rw [e15, up2_e]
          have z3 : ∀ i, sm' 3 i = if i = (sm 0 4).toInt.toNat then v else sm 3 i := fun i => by
            rw [e15, up2_n (by decide), e13, up2_is, show (sm 0 4).toNatClampNeg = (sm 0 4).toInt.toNat by omega]
            by_cases w : i = (sm 0 4).toInt.toNat
            · rw [if_pos ⟨rfl, w⟩, if_pos w]
            · rw [if_neg (fun z => w z.2), if_neg w]
          have esz : sx' 5 0 = sm' 0 4 := Int32.toInt_inj.mp (by rw [r1, z04, e14, es])
          refine ⟨by rw [esz], ⟨esz, fun i hi => ?_⟩, fun i j hij hj => ?_⟩
          · rw [r2 i, z3 i, es]
            by_cases w : i = (sm 0 4).toInt.toNat
            · rw [if_pos w, if_pos w]
            · rw [if_neg w, if_neg w]
              exact hr.1.2 i (by omega)
          · rw [z04, e14] at hj
            rw [z3 i, z3 j, if_neg (by omega)]
            by_cases w : j = (sm 0 4).toInt.toNat
            · rw [if_pos w]; exact b2 i (by omega)
            · rw [if_neg w]; exact hr.2 i j hij (by omega)
        · rw [if_neg (by rw [i_lt]; omega)] at d1
          have de : (sx 5 0).toInt = (sm 0 4).toInt := by rw [es]
          rw [if_pos (by rw [i_eq]; omega)] at d2
          cases d1
          cases d2
          exact ⟨rfl, hr⟩
  · rw [has0 c, bnd2_s, ite0] at e1
    rw [isHen0 hM.2.2 (by rw [hz]; exact c), bnd3_s, ite0] at e2
    cases e1
    cases e2
    exact ⟨rfl, hr⟩
def RV (f : Nat → Int32) (n j : Nat) : Int32 := if j < n then f (n - 1 - j) else f j
theorem rv_step {f g h : Nat → Int32} {n i : Nat} (hi : 2 * i + 1 < n) (hg : ∀ j, g j = if j < i ∨ (n ≤ j + i ∧ j < n) then f (n - 1 - j) else f j) (hh : ∀ j, h j = if j = n - 1 - i then g i else if j = i then g (n - 1 - i) else g j) : ∀ j, h j = if j < i + 1 ∨ (n ≤ j + (i + 1) ∧ j < n) then f (n - 1 - j) else f j := by
  intro j
  rw [hh j]
  by_cases a : j = n - 1 - i
  · rw [if_pos a, hg i, if_neg (by omega), if_pos (by omega), show n - 1 - j = i by omega]
  · rw [if_neg a]
    by_cases b : j = i
    · rw [if_pos b, hg (n - 1 - i), if_neg (by omega), if_pos (by omega), b]
    · rw [if_neg b, hg j]
      by_cases c : j < i ∨ (n ≤ j + i ∧ j < n)
      · rw [if_pos c, if_pos (by omega)]
      · rw [if_neg c, if_neg (by omega)]
theorem rv_end {f g : Nat → Int32} {n i : Nat} (hi : n ≤ 2 * i + 1) (h2 : 2 * i ≤ n) (hg : ∀ j, g j = if j < i ∨ (n ≤ j + i ∧ j < n) then f (n - 1 - j) else f j) : ∀ j, g j = RV f n j := by
  intro j
  rw [hg j]
  unfold RV
  by_cases a : j < n
  · rw [if_pos a]
    by_cases c : j < i ∨ (n ≤ j + i ∧ j < n)
    · rw [if_pos c]
    · rw [if_neg c, show n - 1 - j = j by omega]
  · rw [if_neg a, if_neg (by omega)]
theorem c_rev {A : Sg} (h0 : 0 ≤ (A 5 0).toInt) (h1 : (A 5 0).toInt ≤ 12) : Ok (fun r => (∀ c, c ≠ 31 → r c = A c) ∧ ∀ j, r 31 j = RV (A 31) (A 5 0).toInt.toNat j) (fX5_reverse A) := by
  have k0 : (0 : Int32).toInt = 0 := by decide
  have dv := div_i (a := A 5 0) (b := (2 : Int32)) 2 (by decide) (by decide) h0
  unfold fX5_reverse LX5_reverse_2
  refine ok_loop (I := fun (q : Int32 × Sg) => 0 ≤ q.1.toInt ∧ q.1.toInt ≤ (A 5 0).toInt / 2 ∧ (∀ c, c ≠ 31 → q.2 c = A c) ∧ ∀ j, q.2 31 j = if j < q.1.toInt.toNat ∨ ((A 5 0).toInt.toNat ≤ j + q.1.toInt.toNat ∧ j < (A 5 0).toInt.toNat) then A 31 ((A 5 0).toInt.toNat - 1 - j) else A 31 j) (m := fun (q : Int32 × Sg) => (13 - q.1.toInt).toNat) _ ?_ ?_ _ ?_
  · intro q hq
    have := hq.1
    show (13 - q.1.toInt).toNat < 10000
    omega
  · intro rec q hq hrec
    obtain ⟨v1, s⟩ := q
    replace hq : 0 ≤ v1.toInt ∧ v1.toInt ≤ (A 5 0).toInt / 2 ∧ (∀ c, c ≠ 31 → s c = A c) ∧ ∀ j, s 31 j = if j < v1.toInt.toNat ∨ ((A 5 0).toInt.toNat ≤ j + v1.toInt.toNat ∧ j < (A 5 0).toInt.toNat) then A 31 ((A 5 0).toInt.toNat - 1 - j) else A 31 j := hq
    obtain ⟨q0, q1, q2, q3⟩ := hq
    show Ok _ (fX5_reverse_2 rec v1 s)
    unfold fX5_reverse_2
    have e5 : s 5 0 = A 5 0 := by rw [q2 5 (by decide)]
    rw [e5]
    have hc := cl_i q0
    refine ok_ite (fun c => ?_) (fun c => ?_)
    · replace c := i_le.mp c
      exact ok_some ⟨q2, rv_end (by omega) (by omega) q3⟩
    · replace c := i_nle.mp c
      have f1 := sub_c (a := A 5 0) (b := (1 : Int32)) 1 (by decide) (by omega) (by omega)
      have f2 := sub_i (a := A 5 0 - 1) (b := v1) (by omega) (by omega)
      refine ok_lt (fun x2 e2 => ?_)
      rw [← e2] at f2
      have hc2 := cl_i (i := x2) (by omega)
      refine ok_gin (by omega) (by omega) ?_
      refine ok_lt (fun x4 e4 => ?_)
      refine ok_gin (by omega) (by omega) ?_
      refine ok_lt (fun x6 e6 => ?_)
      refine ok_gin (by omega) (by omega) ?_
      refine ok_lt (fun s8 e8 => ?_)
      refine ok_gin (by omega) (by omega) ?_
      refine ok_lt (fun s10 e10 => ?_)
      refine ok_lt (fun x11 e11 => ?_)
      replace e11 : x11.toInt = v1.toInt + 1 := by rw [e11]; exact add_c 1 (by decide) (by omega) (by omega)
      refine hrec (x11, s10) ⟨by show 0 ≤ x11.toInt; omega, by show x11.toInt ≤ (A 5 0).toInt / 2; omega, fun c hc => by show s10 c = A c; rw [e10, up2_n hc, e8, up2_n hc]; exact q2 c hc, ?_⟩ (show (13 - x11.toInt).toNat < (13 - v1.toInt).toNat by omega)
      show ∀ j, s10 31 j = if j < x11.toInt.toNat ∨ ((A 5 0).toInt.toNat ≤ j + x11.toInt.toNat ∧ j < (A 5 0).toInt.toNat) then A 31 ((A 5 0).toInt.toNat - 1 - j) else A 31 j
      rw [show x11.toInt.toNat = v1.toInt.toNat + 1 by omega]
      refine rv_step (g := s 31) (by omega) q3 (fun j => ?_)
      rw [e10, up2_is, e8, up2_is, show x2.toNatClampNeg = (A 5 0).toInt.toNat - 1 - v1.toInt.toNat by omega, show v1.toNatClampNeg = v1.toInt.toNat by omega, e4, e6, show x2.toNatClampNeg = (A 5 0).toInt.toNat - 1 - v1.toInt.toNat by omega, show v1.toNatClampNeg = v1.toInt.toNat by omega]
      by_cases a : j = (A 5 0).toInt.toNat - 1 - v1.toInt.toNat
      · rw [if_pos ⟨rfl, a⟩, if_pos a]
      · rw [if_neg (fun z => a z.2), if_neg a]
        by_cases b : j = v1.toInt.toNat
        · rw [if_pos ⟨rfl, b⟩, if_pos b]
        · rw [if_neg (fun z => b z.2), if_neg b]
  · refine ⟨by show 0 ≤ (0 : Int32).toInt; omega, by show (0 : Int32).toInt ≤ (A 5 0).toInt / 2; omega, fun _ _ => rfl, fun j => ?_⟩
    show A 31 j = if j < (0 : Int32).toInt.toNat ∨ ((A 5 0).toInt.toNat ≤ j + (0 : Int32).toInt.toNat ∧ j < (A 5 0).toInt.toNat) then _ else _
    rw [if_neg (by omega)]
theorem m_rev {A : Sg} {lm : Lg} (h0 : 0 ≤ (A 0 4).toInt) (h1 : (A 0 4).toInt ≤ 12) : Ok (fun r => (∀ c, c ≠ 3 → r.2.1 c = A c) ∧ ∀ j, r.2.1 3 j = RV (A 3) (A 0 4).toInt.toNat j) (fX12_turn A lm) := by
  have k0 : (0 : Int32).toInt = 0 := by decide
  have dv := div_i (a := A 0 4) (b := (2 : Int32)) 2 (by decide) (by decide) h0
  unfold fX12_turn LX12_turn_2
  refine ok_loop (I := fun (q : Int32 × Sg × Lg) => 0 ≤ q.1.toInt ∧ q.1.toInt ≤ (A 0 4).toInt / 2 ∧ (∀ c, c ≠ 3 → q.2.1 c = A c) ∧ ∀ j, q.2.1 3 j = if j < q.1.toInt.toNat ∨ ((A 0 4).toInt.toNat ≤ j + q.1.toInt.toNat ∧ j < (A 0 4).toInt.toNat) then A 3 ((A 0 4).toInt.toNat - 1 - j) else A 3 j) (m := fun (q : Int32 × Sg × Lg) => (13 - q.1.toInt).toNat) _ ?_ ?_ _ ?_
  · intro q hq
    have := hq.1
    show (13 - q.1.toInt).toNat < 10000
    omega
  · intro rec q hq hrec
    obtain ⟨v1, s, l⟩ := q
    replace hq : 0 ≤ v1.toInt ∧ v1.toInt ≤ (A 0 4).toInt / 2 ∧ (∀ c, c ≠ 3 → s c = A c) ∧ ∀ j, s 3 j = if j < v1.toInt.toNat ∨ ((A 0 4).toInt.toNat ≤ j + v1.toInt.toNat ∧ j < (A 0 4).toInt.toNat) then A 3 ((A 0 4).toInt.toNat - 1 - j) else A 3 j := hq
    obtain ⟨q0, q1, q2, q3⟩ := hq
    show Ok _ (fX12_turn_2 rec v1 s l)
    unfold fX12_turn_2
    have e5 : s 0 4 = A 0 4 := by rw [q2 0 (by decide)]
    rw [e5]
    have hc := cl_i q0
    refine ok_ite (fun c => ?_) (fun c => ?_)
    · replace c := i_le.mp c
      exact ok_some ⟨q2, rv_end (by omega) (by omega) q3⟩
    · replace c := i_nle.mp c
      have f1 := sub_c (a := A 0 4) (b := (1 : Int32)) 1 (by decide) (by omega) (by omega)
      have f2 := sub_i (a := A 0 4 - 1) (b := v1) (by omega) (by omega)
      refine ok_gin (by omega) (by omega) ?_
      refine ok_lt (fun x3 e3 => ?_)
      refine ok_lt (fun x4 e4 => ?_)
      rw [← e4] at f2
      have hc2 := cl_i (i := x4) (by omega)
      refine ok_gin (by omega) (by omega) ?_
      refine ok_lt (fun x6 e6 => ?_)
      refine ok_gin (by omega) (by omega) ?_
      refine ok_lt (fun s8 e8 => ?_)
      have e58 : s8 0 4 = A 0 4 := by rw [e8, up2_n (by decide)]; exact e5
      rw [e58, ← e4]
      refine ok_gin (by omega) (by omega) ?_
      refine ok_lt (fun s10 e10 => ?_)
      refine ok_lt (fun x11 e11 => ?_)
      replace e11 : x11.toInt = v1.toInt + 1 := by rw [e11]; exact add_c 1 (by decide) (by omega) (by omega)
      refine hrec (x11, s10, l) ⟨by show 0 ≤ x11.toInt; omega, by show x11.toInt ≤ (A 0 4).toInt / 2; omega, fun c hc => by show s10 c = A c; rw [e10, up2_n hc, e8, up2_n hc]; exact q2 c hc, ?_⟩ (show (13 - x11.toInt).toNat < (13 - v1.toInt).toNat by omega)
      show ∀ j, s10 3 j = if j < x11.toInt.toNat ∨ ((A 0 4).toInt.toNat ≤ j + x11.toInt.toNat ∧ j < (A 0 4).toInt.toNat) then A 3 ((A 0 4).toInt.toNat - 1 - j) else A 3 j
      rw [show x11.toInt.toNat = v1.toInt.toNat + 1 by omega]
      refine rv_step (g := s 3) (by omega) q3 (fun j => ?_)
      rw [e10, up2_is, e8, up2_is, e3, e6, show x4.toNatClampNeg = (A 0 4).toInt.toNat - 1 - v1.toInt.toNat by omega, show v1.toNatClampNeg = v1.toInt.toNat by omega]
      by_cases a : j = (A 0 4).toInt.toNat - 1 - v1.toInt.toNat
      · rw [if_pos ⟨rfl, a⟩, if_pos a]
      · rw [if_neg (fun z => a z.2), if_neg a]
        by_cases b : j = v1.toInt.toNat
        · rw [if_pos ⟨rfl, b⟩, if_pos b]
        · rw [if_neg (fun z => b z.2), if_neg b]
  · refine ⟨by show 0 ≤ (0 : Int32).toInt; omega, by show (0 : Int32).toInt ≤ (A 0 4).toInt / 2; omega, fun _ _ => rfl, fun j => ?_⟩
    show A 3 j = if j < (0 : Int32).toInt.toNat ∨ ((A 0 4).toInt.toNat ≤ j + (0 : Int32).toInt.toNat ∧ j < (A 0 4).toInt.toNat) then _ else _
    rw [if_neg (by omega)]
theorem hd_turn {sx sm sx' sm' : Sg} {lm lm' : Lg} {r r' : Int64} (hM : IM sm lm) (hr : HD sx sm) (e1 : fX11_turn sx = some (r, sx')) (e2 : fX12_turn sm lm = some (r', sm', lm')) : HD sx' sm' := by
  have q := rdM0_4 hM
  have es := hr.1.1
  unfold fX11_turn at e1
  obtain ⟨s1, c1, e1⟩ := p_bnd1 e1
  cases e1
  obtain ⟨f1, f2⟩ := ok_at (c_rev (by rw [es]; exact q.1) (by rw [es]; exact q.2)) c1
  obtain ⟨g1, g2⟩ := ok_at (m_rev q.1 q.2) e2
  replace g1 : ∀ c, c ≠ 3 → sm' c = sm c := g1
  replace g2 : ∀ j, sm' 3 j = RV (sm 3) (sm 0 4).toInt.toNat j := g2
  have e5 : sx' 5 0 = sx 5 0 := by rw [f1 5 (by decide)]
  have e04 : sm' 0 4 = sm 0 4 := by rw [g1 0 (by decide)]
  rw [es] at f2
  refine ⟨⟨by rw [e5, e04, es], fun i hi => ?_⟩, fun i j hij hj => ?_⟩
  · rw [e5, es] at hi
    rw [f2 i, g2 i]
    unfold RV
    rw [if_pos (by omega), if_pos (by omega)]
    exact hr.1.2 _ (by rw [es]; omega)
  · rw [e04] at hj
    rw [g2 i, g2 j]
    unfold RV
    rw [if_pos (by omega), if_pos (by omega)]
    exact fun y => hr.2 _ _ (by omega) (by omega) y.symm
/-! a whole hand -/
/-- who is among the first m of a row -/
def hb (p : Nat → Nat) : Nat → Nat → Bool
  | 0, _ => false
  | m + 1, h => hb p m h || decide (p m = h)
theorem hb_iff {p : Nat → Nat} {h : Nat} : ∀ m, hb p m h = true ↔ ∃ i, i < m ∧ p i = h
  | 0 => ⟨fun z => absurd z (by unfold hb; decide), fun ⟨i, z, _⟩ => absurd z (Nat.not_lt_zero _)⟩
  | m + 1 => by
    have ih := hb_iff (p := p) (h := h) m
    unfold hb
    rw [Bool.or_eq_true, ih, decide_eq_true_eq]
    constructor
    · rintro (⟨i, a, b⟩ | z)
      · exact ⟨i, by omega, b⟩
      · exact ⟨m, by omega, z⟩
    · rintro ⟨i, a, b⟩
      by_cases w : i = m
      · subst w; exact Or.inr b
      · exact Or.inl ⟨i, by omega, b⟩
theorem cn_add {q : Nat → Bool} {a : Nat} (h : q a = false) : ∀ n, cn (fun j => q j || decide (a = j)) n = cn q n + (if a < n then 1 else 0)
  | 0 => rfl
  | n + 1 => by
    have ih := cn_add h n
    have e1 : cn (fun j => q j || decide (a = j)) (n + 1) = cn (fun j => q j || decide (a = j)) n + (if (q n || decide (a = n)) = true then 1 else 0) := rfl
    have e2 : cn q (n + 1) = cn q n + (if q n = true then 1 else 0) := rfl
    rw [e1, e2, ih]
    by_cases w : a = n
    · subst w
      rw [h, decide_eq_true rfl, if_neg (Nat.lt_irrefl _), if_pos (show a < a + 1 by omega)]
      simp
    · rw [decide_eq_false w, Bool.or_false]
      by_cases c : a < n
      · rw [if_pos c, if_pos (show a < n + 1 by omega)]; omega
      · rw [if_neg c, if_neg (show ¬ a < n + 1 by omega)]; omega
/-- as many as there are places -/
theorem cn_hb {p : Nat → Nat} : ∀ m, (∀ i, i < m → p i < 12) → (∀ i j, i < j → j < m → ¬ p i = p j) → cn (hb p m) 12 = m
  | 0, _, _ => by
    have : ∀ n, cn (hb p 0) n = 0 := by
      intro n
      induction n with
      | zero => rfl
      | succ n ih =>
        have e : cn (hb p 0) (n + 1) = cn (hb p 0) n + (if hb p 0 n = true then 1 else 0) := rfl
        rw [e, ih]
        rfl
    exact this 12
  | m + 1, h1, h2 => by
    have ih := cn_hb m (fun i hi => h1 i (by omega)) (fun i j a b => h2 i j a (by omega))
    have nf : hb p m (p m) = false := by
      cases hq : hb p m (p m)
      · rfl
      · obtain ⟨i, a, b⟩ := (hb_iff m).mp hq
        exact absurd b (h2 i m a (by omega))
    have e : hb p (m + 1) = fun j => hb p m j || decide (p m = j) := rfl
    rw [e, cn_add nf, ih, if_pos (h1 m (by omega))]
theorem cn_eq {q r : Nat → Bool} : ∀ n, (∀ j, j < n → q j = r j) → cn q n = cn r n
  | 0, _ => rfl
  | n + 1, h => by
    have e1 : cn q (n + 1) = cn q n + (if q n = true then 1 else 0) := rfl
    have e2 : cn r (n + 1) = cn r n + (if r n = true then 1 else 0) := rfl
    rw [e1, e2, cn_eq n (fun j hj => h j (by omega)), h n (by omega)]
/-- whole: as many as count, and all of them count -/
theorem whole_iff {p : Nat → Nat} {m : Nat} {c : Nat → Bool} (h1 : ∀ i, i < m → p i < 12) (h2 : ∀ i j, i < j → j < m → ¬ p i = p j) : (m = cn c 12 ∧ ∀ i, i < m → c (p i) = true) ↔ ∀ h, h < 12 → hb p m h = c h := by
  have k := cn_hb m h1 h2
  constructor
  · rintro ⟨a, b⟩ h hh
    have sub : ∀ j, j < 12 → hb p m j = true → c j = true := fun j _ hj => by
      obtain ⟨i, z1, z2⟩ := (hb_iff m).mp hj
      rw [← z2]; exact b i z1
    cases hq : hb p m h
    · cases hc : c h
      · rfl
      · have := cn_lt (j0 := h) 12 sub hh hc hq
        omega
    · exact (sub h hh hq).symm
  · intro e
    refine ⟨by rw [← cn_eq 12 e, k], fun i hi => ?_⟩
    rw [← e _ (h1 i hi)]
    exact (hb_iff m).mpr ⟨i, hi, rfl⟩
/-- the hen at a place of the reference's hand -/
def hp (sm : Sg) (i : Nat) : Nat := (sm 3 i).toInt.toNat
theorem hp_lt {sm : Sg} {lm : Lg} (hM : IM sm lm) (i : Nat) : hp sm i < 12 ∧ sm 3 i = Int32.ofNat (hp sm i) := by
  have r := rdM3 hM (j := i)
  unfold hp
  exact ⟨by omega, of_i r.1⟩
theorem hp_nd {sm : Sg} {lm : Lg} (hM : IM sm lm) (h : ND sm) : ∀ i j, i < j → j < (sm 0 4).toInt.toNat → ¬ hp sm i = hp sm j := fun i j a b z => by
  refine h i j a (by omega) ?_
  rw [(hp_lt hM i).2, (hp_lt hM j).2, z]
/-! isWhole, and readFrom -/
theorem bits_cn {X : Nat} (hX : X < 2 ^ 12) {q : Nat → Bool} (h : ∀ j, j < 12 → X.testBit j = q j) {A : Nat} (hA : A < 2 ^ 12) {c : Nat → Bool} (hc : ∀ j, j < 12 → A.testBit j = c j) : X = A ↔ ∀ j, j < 12 → q j = c j := by
  constructor
  · intro e j hj
    rw [← h j hj, ← hc j hj, e]
  · intro e
    refine Nat.eq_of_testBit_eq fun j => ?_
    by_cases w : j < 12
    · rw [h j w, hc j w, e j w]
    · rw [tb_hi hX (by omega), tb_hi hA (by omega)]
/-- the reference: whole, as a question of who stands -/
def WHm (sm : Sg) : Prop := ∀ h, h < 12 → hb (hp sm) (sm 0 4).toInt.toNat h = cb (sm 1) (Int32.ofNat h)
theorem isWhole_is {sm : Sg} {lm : Lg} (hM : IM sm lm) (hN : ND sm) : Ok (fun q => q.2 = (sm, lm) ∧ ((q.1 = 1 ∧ WHm sm) ∨ (q.1 = 0 ∧ ¬ WHm sm))) (fX12_isWhole sm lm) := by
  have k0 : (0 : Int32).toInt = 0 := by decide
  have k12 : (12 : Int32).toInt = 12 := by decide
  have q4 := rdM0_4 hM
  have sv := hM.2.2
  have cr := ctg_r (sm 1) (sm 1 0).toInt.toNat (by have := sv.2.1; omega)
  have e12 : (2 : Nat) ^ 12 = 4096 := by decide
  have cnH := cn_hb (p := hp sm) (sm 0 4).toInt.toNat (fun i _ => (hp_lt hM i).1) (hp_nd hM hN)
  -- the count of the bits, and the answer
  have fin : ∀ X : Int32, 0 ≤ X.toInt → X.toInt ≤ 4095 → (∀ j, j < 12 → X.toInt.toNat.testBit j = hb (hp sm) (sm 0 4).toInt.toNat j) → Ok (fun (q : Int32 × Sg × Lg) => q.2 = (sm, lm) ∧ ((q.1 = 1 ∧ WHm sm) ∨ (q.1 = 0 ∧ ¬ WHm sm))) (LX12_isWhole_33 (X, (0 : Int32), (0 : Int32), sm, lm)) := by
    intro X X0 X1 hX
    unfold LX12_isWhole_33
    refine ok_loop (I := fun (q : Int32 × Int32 × Int32 × Sg × Lg) => q.1 = X ∧ q.2.2.2 = (sm, lm) ∧ 0 ≤ q.2.2.1.toInt ∧ q.2.2.1.toInt ≤ 12 ∧ q.2.1.toInt = (cn (hb (hp sm) (sm 0 4).toInt.toNat) q.2.2.1.toInt.toNat : Int)) (m := fun (q : Int32 × Int32 × Int32 × Sg × Lg) => (13 - q.2.2.1.toInt).toNat) _ ?_ ?_ _ ?_
    · intro q hq
      have := hq.2.2.1
      show (13 - q.2.2.1.toInt).toNat < 10000
      omega
    · intro rec q hq hrec
      obtain ⟨p1, v2, v3, s, l⟩ := q
      replace hq : p1 = X ∧ (s, l) = (sm, lm) ∧ 0 ≤ v3.toInt ∧ v3.toInt ≤ 12 ∧ v2.toInt = (cn (hb (hp sm) (sm 0 4).toInt.toNat) v3.toInt.toNat : Int) := hq
      obtain ⟨a1, a2, q0, q1, q2⟩ := hq
      obtain ⟨b1, b2⟩ := Prod.mk.inj a2
      subst a1 b1 b2
      show Ok _ (fX12_isWhole_33 rec p1 v2 v3 s l)
      unfold fX12_isWhole_33
      refine ok_ite (fun c => ?_) (fun c => ?_)
      · replace c := i_le.mp c
        rw [show v3.toInt.toNat = 12 by omega, cnH] at q2
        rw [if_pos (Int32.toInt_inj.mp (by omega))]
        refine bnd3_of (counting_is sv) ?_
        have key : p1 = ctg (s 1) (s 1 0).toInt.toNat ↔ WHm s := by
          have b := bits_cn (X := p1.toInt.toNat) (by omega) hX (A := (ctg (s 1) (s 1 0).toInt.toNat).toInt.toNat) (by omega) (c := fun j => cb (s 1) (Int32.ofNat j)) (fun j hj => by
            have t := ctg_tb (S := s 1) j (s 1 0).toInt.toNat (by have := sv.2.1; omega)
            have lt : cb (s 1) (Int32.ofNat j) = true → j < (s 1 0).toInt.toNat := fun z => by
              have o := ofn_n hj
              simp only [cb, decide_eq_true_eq] at z
              omega
            cases h1 : cb (s 1) (Int32.ofNat j)
            · cases h2 : (ctg (s 1) (s 1 0).toInt.toNat).toInt.toNat.testBit j
              · rfl
              · rw [(t.mp h2).2] at h1; cases h1
            · exact t.mpr ⟨lt h1, h1⟩)
          unfold WHm
          rw [← b]
          constructor
          · intro z; rw [z]
          · intro z; exact Int32.toInt_inj.mp (by omega)
        by_cases w : p1 = ctg (s 1) (s 1 0).toInt.toNat
        · rw [if_pos w]
          exact ok_some ⟨rfl, Or.inl ⟨rfl, key.mp w⟩⟩
        · rw [if_neg w]
          exact ok_some ⟨rfl, Or.inr ⟨rfl, fun z => w (key.mpr z)⟩⟩
      · replace c := i_nle.mp c
        have bt := bit_n (a := p1) (v := v3) X0 q0 (by omega)
        have hb' := hX v3.toInt.toNat (by omega)
        have ec : cn (hb (hp s) (s 0 4).toInt.toNat) (v3.toInt.toNat + 1) = cn (hb (hp s) (s 0 4).toInt.toNat) v3.toInt.toNat + (if hb (hp s) (s 0 4).toInt.toNat v3.toInt.toNat = true then 1 else 0) := rfl
        have cm := cn_max (hb (hp s) (s 0 4).toInt.toNat) v3.toInt.toNat
        have bv : ((p1 >>> (v3 &&& 31)) &&& (1 : Int32)).toInt = (if hb (hp s) (s 0 4).toInt.toNat v3.toInt.toNat = true then 1 else 0) := by
          have sh := shr_is (a := p1) (v := v3) q0 (by omega)
          have nn : 0 ≤ (p1 >>> (v3 &&& 31)).toInt := (shr_i X0).1
          have ar := and_r (a := p1 >>> (v3 &&& 31)) (b := (1 : Int32)) (by decide)
          have k1 : (1 : Int32).toInt = 1 := by decide
          by_cases w : hb (hp s) (s 0 4).toInt.toNat v3.toInt.toNat = true
          · rw [if_pos w, bt.mpr (by rw [hb']; exact w)]
            exact k1
          · rw [if_neg w]
            have ne : ¬ ((p1 >>> (v3 &&& 31)) &&& (1 : Int32)) = (1 : Int32) := fun z => w (by rw [← hb']; exact bt.mp z)
            have := i_ne.mp ne
            omega
        refine ok_lt (fun x8 e8 => ?_)
        have e8' : x8.toInt = v2.toInt + (if hb (hp s) (s 0 4).toInt.toNat v3.toInt.toNat = true then 1 else 0) := by
          rw [e8, add_i (by rw [bv]; split <;> omega) (by rw [bv]; split <;> omega), bv]
        refine ok_lt (fun x9 e9 => ?_)
        replace e9 : x9.toInt = v3.toInt + 1 := by rw [e9]; exact add_c 1 (by decide) (by omega) (by omega)
        refine hrec (p1, x8, x9, s, l) ⟨rfl, rfl, by show 0 ≤ x9.toInt; omega, by show x9.toInt ≤ 12; omega, ?_⟩ (show (13 - x9.toInt).toNat < (13 - v3.toInt).toNat by omega)
        show x8.toInt = (cn (hb (hp s) (s 0 4).toInt.toNat) x9.toInt.toNat : Int)
        rw [show x9.toInt.toNat = v3.toInt.toNat + 1 by omega, ec, e8', q2]
        split <;> simp
    · exact ⟨rfl, rfl, by show 0 ≤ (0 : Int32).toInt; omega, by show (0 : Int32).toInt ≤ 12; omega, rfl⟩
  unfold fX12_isWhole LX12_isWhole_4
  refine ok_loop (I := fun (q : Int32 × Int32 × Sg × Lg) => q.2.2 = (sm, lm) ∧ 0 ≤ q.2.1.toInt ∧ q.2.1.toInt ≤ (sm 0 4).toInt ∧ 0 ≤ q.1.toInt ∧ q.1.toInt ≤ 4095 ∧ ∀ j, j < 12 → q.1.toInt.toNat.testBit j = hb (hp sm) q.2.1.toInt.toNat j) (m := fun (q : Int32 × Int32 × Sg × Lg) => (13 - q.2.1.toInt).toNat) _ ?_ ?_ _ ?_
  · intro q hq
    have := hq.2.1
    show (13 - q.2.1.toInt).toNat < 10000
    omega
  · intro rec q hq hrec
    obtain ⟨v1, v2, s, l⟩ := q
    replace hq : (s, l) = (sm, lm) ∧ 0 ≤ v2.toInt ∧ v2.toInt ≤ (sm 0 4).toInt ∧ 0 ≤ v1.toInt ∧ v1.toInt ≤ 4095 ∧ ∀ j, j < 12 → v1.toInt.toNat.testBit j = hb (hp sm) v2.toInt.toNat j := hq
    obtain ⟨a2, q0, q1, q2, q3, q5⟩ := hq
    obtain ⟨b1, b2⟩ := Prod.mk.inj a2
    subst b1 b2
    show Ok _ (fX12_isWhole_4 rec v1 v2 s l)
    unfold fX12_isWhole_4
    have hc := cl_i q0
    refine ok_ite (fun c => ?_) (fun c => ?_)
    · replace c := i_le.mp c
      exact fin v1 q2 q3 (by rw [show (s 0 4).toInt.toNat = v2.toInt.toNat by omega]; exact q5)
    · replace c := i_nle.mp c
      have r := rdM3 hM (j := v2.toNatClampNeg)
      refine ok_gin (by omega) (by omega) ?_
      refine ok_lt (fun x3 e3 => ?_)
      have tn := tset_n (set := v1) (h := s 3 v2.toNatClampNeg) q2 q3 r.1 r.2
      have ti := tset_i (set := v1) (h := s 3 v2.toNatClampNeg) q2 q3 r.1 r.2
      rw [← e3] at tn ti
      refine ok_lt (fun x4 e4 => ?_)
      replace e4 : x4.toInt = v2.toInt + 1 := by rw [e4]; exact add_c 1 (by decide) (by omega) (by omega)
      refine hrec (x3, x4, s, l) ⟨rfl, by show 0 ≤ x4.toInt; omega, by show x4.toInt ≤ (s 0 4).toInt; omega, ti.1, ti.2, fun j hj => ?_⟩ (show (13 - x4.toInt).toNat < (13 - v2.toInt).toNat by omega)
      show x3.toInt.toNat.testBit j = hb (hp s) x4.toInt.toNat j
      rw [tn, tb_or, q5 j hj, show x4.toInt.toNat = v2.toInt.toNat + 1 by omega]
      show _ = (hb (hp s) v2.toInt.toNat j || decide (hp s v2.toInt.toNat = j))
      unfold hp
      rw [show v2.toNatClampNeg = v2.toInt.toNat by omega]
  · refine ⟨rfl, by show 0 ≤ (0 : Int32).toInt; omega, by show (0 : Int32).toInt ≤ (sm 0 4).toInt; omega, by show 0 ≤ (0 : Int32).toInt; omega, by show (0 : Int32).toInt ≤ 4095; omega, fun j hj => ?_⟩
    show (0 : Int32).toInt.toNat.testBit j = hb (hp sm) (0 : Int32).toInt.toNat j
    rw [show (0 : Int32).toInt.toNat = 0 by decide, Nat.zero_testBit]
    rfl
/-! readFrom -/
def hx (sx : Sg) (i : Nat) : Nat := (sx 31 i).toInt.toNat
theorem hx_lt {sx : Sg} (hI : IC0 sx) (i : Nat) : hx sx i < 12 ∧ sx 31 i = Int32.ofNat (hx sx i) := by
  have r := rdC31 hI (j := i)
  unfold hx
  exact ⟨by omega, of_i r.1⟩
/-- the class: as many as count, and all count -/
def WHx (sx : Sg) : Prop := (sx 5 0).toInt = (rk sx 12 : Int) ∧ ∀ i : Nat, (i : Int) < (sx 5 0).toInt → cnb sx (hx sx i) = true
/-- a line that has been read -/
def LRd (s : Sg) : Prop := ∀ i : Nat, (i : Int) < (s 5 0).toInt → cnb s (hx s i) = true ∧ s 32 i = Int32.ofNat (rk s (hx s i)) ∧ s 33 (rk s (hx s i)) = Int32.ofNat i
def NDx (sx : Sg) : Prop := ∀ i j : Nat, i < j → (j : Int) < (sx 5 0).toInt → ¬ hx sx i = hx sx j
set_option maxHeartbeats 4000000 in
theorem read_25 {A : Sg} (hI : IC0 A) (hM : MC A) (hN : NDx A) : Ok (fun q => (∀ c, c ≠ 32 → c ≠ 33 → q.2 c = A c) ∧ ((q.1 = 1 ∧ LRd q.2) ∨ (q.1 = 0 ∧ ∃ i : Nat, (i : Int) < (A 5 0).toInt ∧ cnb A (hx A i) = false))) (LX7_readFrom_25 ((0 : Int32), A)) := by
  have k0 : (0 : Int32).toInt = 0 := by decide
  have r5 := rdC5_0 hI
  have r12 := rk_le A 12
  unfold LX7_readFrom_25
  refine ok_loop (I := fun (q : Int32 × Sg) => 0 ≤ q.1.toInt ∧ q.1.toInt ≤ (A 5 0).toInt ∧ (∀ c, c ≠ 32 → c ≠ 33 → q.2 c = A c) ∧ ∀ i : Nat, (i : Int) < q.1.toInt → cnb A (hx A i) = true ∧ q.2 32 i = Int32.ofNat (rk A (hx A i)) ∧ q.2 33 (rk A (hx A i)) = Int32.ofNat i) (m := fun (q : Int32 × Sg) => (13 - q.1.toInt).toNat) _ ?_ ?_ _ ?_
  · intro q hq
    have := hq.1
    show (13 - q.1.toInt).toNat < 10000
    omega
  · intro rec q hq hrec
    obtain ⟨v2, s⟩ := q
    replace hq : 0 ≤ v2.toInt ∧ v2.toInt ≤ (A 5 0).toInt ∧ (∀ c, c ≠ 32 → c ≠ 33 → s c = A c) ∧ ∀ i : Nat, (i : Int) < v2.toInt → cnb A (hx A i) = true ∧ s 32 i = Int32.ofNat (rk A (hx A i)) ∧ s 33 (rk A (hx A i)) = Int32.ofNat i := hq
    obtain ⟨q0, q1, q2, q3⟩ := hq
    show Ok _ (fX7_readFrom_25 rec v2 s)
    unfold fX7_readFrom_25
    have e5 : s 5 0 = A 5 0 := by rw [q2 5 (by decide) (by decide)]
    rw [e5, q2 31 (by decide) (by decide), q2 18 (by decide) (by decide)]
    have hc := cl_i q0
    refine ok_ite (fun c => ?_) (fun c => ?_)
    · replace c := i_le.mp c
      refine ok_some ⟨q2, Or.inl ⟨rfl, fun i hi => ?_⟩⟩
      replace hi : (i : Int) < (s 5 0).toInt := hi
      rw [e5] at hi
      have cc : ∀ x, cnb s x = cnb A x := fun x => cnb_cg (q2 1 (by decide) (by decide)) (q2 11 (by decide) (by decide)) (q2 13 (by decide) (by decide)) x
      have eh : hx s i = hx A i := by unfold hx; rw [q2 31 (by decide) (by decide)]
      show cnb s (hx s i) = true ∧ s 32 i = Int32.ofNat (rk s (hx s i)) ∧ s 33 (rk s (hx s i)) = Int32.ofNat i
      rw [eh, cc, rk_cg cc]
      exact q3 i (by omega)
    · replace c := i_nle.mp c
      have h31 := hx_lt hI v2.toNatClampNeg
      refine ok_gin (by omega) (by omega) ?_
      refine ok_lt (fun x3 e3 => ?_)
      have r31 := rdC31 hI (j := v2.toNatClampNeg)
      rw [← e3] at r31
      have hc3 := cl_i r31.1
      have en : x3.toNatClampNeg = hx A v2.toNatClampNeg := by unfold hx; rw [← e3]; omega
      refine ok_gin (by omega) (by omega) ?_
      rw [en]
      refine ok_lt (fun x5 e5' => ?_)
      cases hcn : cnb A (hx A v2.toNatClampNeg)
      · rw [hM.2.2.1 _ h31.1 hcn] at e5'
        rw [if_pos e5']
        exact ok_some ⟨q2, Or.inr ⟨rfl, v2.toNatClampNeg, by omega, hcn⟩⟩
      · rw [(hM.2.1 _ h31.1 hcn).2.1] at e5'
        have rl := rk_lt hcn h31.1
        have ok := ofn_n (j := rk A (hx A v2.toNatClampNeg)) (by omega)
        have hc5 := cl_i (i := x5) (by rw [e5', ok]; omega)
        rw [e5', ok] at hc5
        rw [if_neg (fun z => by rw [e5'] at z; have := congrArg Int32.toInt z; have km : (-1 : Int32).toInt = -1 := by decide
                                omega)]
        refine ok_gin (by omega) (by omega) ?_
        refine ok_lt (fun s8 e8 => ?_)
        refine ok_gin (by rw [e5']; omega) (by rw [e5']; omega) ?_
        refine ok_lt (fun s10 e10 => ?_)
        refine ok_lt (fun x11 e11 => ?_)
        replace e11 : x11.toInt = v2.toInt + 1 := by rw [e11]; exact add_c 1 (by decide) (by omega) (by omega)
        rw [e5'] at e8 e10
        rw [show (Int32.ofNat (rk A (hx A v2.toNatClampNeg))).toNatClampNeg = rk A (hx A v2.toNatClampNeg) by omega] at e10
        refine hrec (x11, s10) ⟨by show 0 ≤ x11.toInt; omega, by show x11.toInt ≤ (A 5 0).toInt; omega, fun c a b => by show s10 c = A c; rw [e10, up2_n b, e8, up2_n a]; exact q2 c a b, fun i hi => ?_⟩ (show (13 - x11.toInt).toNat < (13 - v2.toInt).toNat by omega)
        replace hi : (i : Int) < x11.toInt := hi
        show cnb A (hx A i) = true ∧ s10 32 i = Int32.ofNat (rk A (hx A i)) ∧ s10 33 (rk A (hx A i)) = Int32.ofNat i
        by_cases w : i = v2.toNatClampNeg
        · subst w
          refine ⟨hcn, by rw [e10, up2_n (by decide), e8, up2_e], ?_⟩
          rw [e10, up2_e]
          have := of_i q0
          rw [show v2.toInt.toNat = v2.toNatClampNeg by omega] at this
          exact this
        · obtain ⟨z1, z2, z3⟩ := q3 i (by omega)
          have ne : rk A (hx A i) ≠ rk A (hx A v2.toNatClampNeg) := fun z => hN i v2.toNatClampNeg (by omega) (by omega) (rk_inj z1 hcn z)
          refine ⟨z1, by rw [e10, up2_n (by decide), e8, up2_o (Or.inr w)]; exact z2, ?_⟩
          rw [e10, up2_o (Or.inr ne), e8, up2_n (by decide)]
          exact z3
  · exact ⟨by show 0 ≤ (0 : Int32).toInt; omega, by show (0 : Int32).toInt ≤ (A 5 0).toInt; omega, fun _ _ _ => rfl, fun i hi => by have hi' : (i : Int) < (0 : Int32).toInt := hi; omega⟩
/-- what readFrom answers and leaves -/
def RF (sx : Sg) (q : Int32 × Sg) : Prop := IC q.2 ∧ JC q.2 ∧ MC q.2 ∧ (∀ k, ¬ (k = 3 ∨ (17 ≤ k ∧ k ≤ 23) ∨ k = 32 ∨ k = 33) → q.2 k = sx k) ∧ ((q.1 = 1 ∧ WHx q.2 ∧ LRd q.2) ∨ (q.1 = 0 ∧ ¬ WHx q.2))
theorem read_is {sx : Sg} (hI : IC sx) (hJ : JC sx) (hN : NDx sx) : Ok (RF sx) (fX7_readFrom sx) := by
  have key : Ok (fun q => MC q.2 ∧ (∀ k, ¬ (k = 3 ∨ (17 ≤ k ∧ k ≤ 23) ∨ k = 32 ∨ k = 33) → q.2 k = sx k) ∧ ((q.1 = 1 ∧ WHx q.2 ∧ LRd q.2) ∨ (q.1 = 0 ∧ ¬ WHx q.2))) (fX7_readFrom sx) := by
    unfold fX7_readFrom
    refine ok_bnd1 (j_gather hI hJ) (fun s1 h1 => ?_)
    obtain ⟨i1, j1, m1, st, f1⟩ := h1
    have e31 : s1 31 = sx 31 := f1 31 (by omega)
    have e5 : s1 5 = sx 5 := f1 5 (by omega)
    have n1 : NDx s1 := fun i j a b => by
      rw [e5] at b
      unfold hx
      rw [e31]
      exact hN i j a b
    refine ok_ite (fun c => ?_) (fun c => ?_)
    · refine ok_mono (read_25 i1.1 m1 n1) (fun q hq => ?_)
      obtain ⟨g1, g2⟩ := hq
      have cc : ∀ x, cnb q.2 x = cnb s1 x := fun x => cnb_cg (g1 1 (by decide) (by decide)) (g1 11 (by decide) (by decide)) (g1 13 (by decide) (by decide)) x
      have er : ∀ n, rk q.2 n = rk s1 n := rk_cg cc
      have eh : ∀ i, hx q.2 i = hx s1 i := fun i => by unfold hx; rw [g1 31 (by decide) (by decide)]
      have z5 : q.2 5 0 = s1 5 0 := by rw [g1 5 (by decide) (by decide)]
      refine ⟨MC_cg m1 (by rw [g1 1 (by decide) (by decide)]) (by rw [g1 3 (by decide) (by decide)]) (g1 11 (by decide) (by decide)) (g1 12 (by decide) (by decide)) (g1 13 (by decide) (by decide)) (g1 15 (by decide) (by decide)) (fun k a b => g1 k (by omega) (by omega)), fun k hk => by rw [g1 k (by omega) (by omega)]; exact f1 k (by omega), ?_⟩
      rcases g2 with ⟨a, b⟩ | ⟨a, i, b1, b2⟩
      · refine Or.inl ⟨a, ⟨?_, fun i hi => (b i hi).1⟩, b⟩
        rw [z5, er, c]
        exact m1.1
      · refine Or.inr ⟨a, fun w => ?_⟩
        have := w.2 i (by rw [z5]; exact b1)
        rw [cc, eh, b2] at this
        cases this
    · refine ok_some ⟨m1, fun k hk => f1 k (by omega), Or.inr ⟨rfl, fun w => c (Int32.toInt_inj.mp ?_)⟩⟩
      have w1 : (s1 5 0).toInt = (rk s1 12 : Int) := w.1
      rw [w1, m1.1]
  obtain ⟨a, e, h1, h2, h3⟩ := key
  have ij := jk_readFrom hI hJ e
  exact ⟨a, e, ij.1, ij.2, h1, h2, h3⟩
/-- whole is whole on both sides -/
theorem whole_eq {sx sm : Sg} {lm : Lg} (hI : IC0 sx) (hM : IM sm lm) (hF : FEq sx (sm 1)) (hd : HD sx sm) : WHx sx ↔ WHm sm := by
  have q := rdM0_4 hM
  have eh : ∀ i : Nat, (i : Int) < (sm 0 4).toInt → hx sx i = hp sm i := fun i hi => by
    unfold hx hp
    rw [hd.1.2 i (by rw [hd.1.1]; exact hi)]
  have w := whole_iff (p := hp sm) (m := (sm 0 4).toInt.toNat) (c := cnb sx) (fun i _ => (hp_lt hM i).1) (hp_nd hM hd.2)
  unfold WHx WHm
  rw [hd.1.1]
  constructor
  · rintro ⟨a, b⟩ h hh
    rw [cb_cnb hF hh]
    exact w.mp ⟨by show _ = rk sx 12; omega, fun i hi => by rw [← eh i (by omega)]; exact b i (by omega)⟩ h hh
  · intro g
    obtain ⟨a, b⟩ := w.mpr (fun h hh => by rw [← cb_cnb hF hh]; exact g h hh)
    have a' : (sm 0 4).toInt.toNat = rk sx 12 := a
    exact ⟨by omega, fun i hi => by rw [eh i hi]; exact b i (by omega)⟩
theorem hd_nd {sx sm : Sg} {lm : Lg} (hM : IM sm lm) (hd : HD sx sm) : NDx sx := fun i j a b => by
  rw [hd.1.1] at b
  unfold hx
  rw [hd.1.2 i (by rw [hd.1.1]; omega), hd.1.2 j (by rw [hd.1.1]; exact b)]
  exact hp_nd hM hd.2 i j a (by omega)
