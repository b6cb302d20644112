/-! what the class's flock, its changes and the reference keep -/
def askP (x : Int32) : Prop := (-2000000005 ≤ x.toInt ∧ x.toInt ≤ 11) ∧ (x = -2000000005 ∨ 0 ≤ x.toInt)
def FlOK (r : Sg) : Prop := (0 ≤ (r 1 0).toInt ∧ (r 1 0).toInt ≤ 12) ∧ ∀ i, (0 ≤ (r 11 i).toInt ∧ (r 11 i).toInt ≤ 4) ∧ askP (r 12 i) ∧ (-1 ≤ (r 14 i).toInt ∧ (r 14 i).toInt ≤ 3) ∧ (0 ≤ (r 15 i).toInt ∧ (r 15 i).toInt ≤ 1000000)
def RingOK (r : Sg) : Prop := ∀ e, e < 8 → (0 ≤ (r (47 + e) 0).toInt ∧ (r (47 + e) 0).toInt ≤ 1) ∧ (0 ≤ (r (47 + e) 1).toInt ∧ (r (47 + e) 1).toInt ≤ 11) ∧ askP (r (47 + e) 2) ∧ (-1 ≤ (r (47 + e) 4).toInt ∧ (r (47 + e) 4).toInt ≤ 3) ∧ ∀ i, 0 ≤ (r (55 + e) i).toInt ∧ (r (55 + e) i).toInt ≤ 1000000
theorem e8 {e : Nat} (h : e < 8) : e = 0 ∨ e = 1 ∨ e = 2 ∨ e = 3 ∨ e = 4 ∨ e = 5 ∨ e = 6 ∨ e = 7 := by omega
theorem ic_fl {sx : Sg} (h : IC0 sx) : FlOK sx := ⟨rdC1_0 h, fun i => ⟨rdC11 h, ⟨rdC12 h, h.2 12 i (Or.inl rfl)⟩, rdC14 h, rdC15 h⟩⟩
theorem ic_ring {sx : Sg} (h : IC0 sx) : RingOK sx := by
  intro e he
  rcases e8 he with z | z | z | z | z | z | z | z <;> subst z <;> exact ⟨h.1 _ 0, h.1 _ 1, ⟨h.1 _ 2, h.2 _ 2 (by decide)⟩, h.1 _ 4, fun i => h.1 _ i⟩
theorem ic_gen {sx r : Sg} (hI : IC sx) (same : ∀ k, k ≠ 1 → k ≠ 2 → ¬ (11 ≤ k ∧ k ≤ 15) → ¬ (47 ≤ k ∧ k ≤ 62) → r k = sx k) (st : (r 1 1).toInt = (sx 1 1).toInt + 1) (k0 : 0 ≤ (r 2 0).toInt ∧ (r 2 0).toInt ≤ 8) (k1 : 0 ≤ (r 2 1).toInt ∧ (r 2 1).toInt ≤ 7) (fl : FlOK r) (ring : RingOK r) : IC r := by
  obtain ⟨⟨h1, h2⟩, g1, g2, g3, g4, g5⟩ := hI
  refine ⟨⟨fun k j => ?_, fun k j hk => ?_⟩, ?_⟩
  · by_cases a1 : k = 1
    · subst a1
      by_cases b : j = 0
      · subst b; exact fl.1
      · have : tbC 1 j = (-2147483648, 2147483647) := if_neg b
        rw [this]; exact ⟨lo32 _, hi32 _⟩
    · by_cases a2 : k = 2
      · subst a2
        by_cases b : j = 0
        · subst b; exact k0
        · by_cases b2 : j = 1
          · subst b2; exact k1
          · have : tbC 2 j = (-2147483648, 2147483647) := by
              show (if j = 0 then _ else if j = 1 then _ else _) = _
              rw [if_neg b, if_neg b2]
            rw [this]; exact ⟨lo32 _, hi32 _⟩
      · by_cases a3 : 11 ≤ k ∧ k ≤ 15
        · rcases (show k = 11 ∨ k = 12 ∨ k = 13 ∨ k = 14 ∨ k = 15 by omega) with z | z | z | z | z <;> subst z
          · exact (fl.2 j).1
          · exact (fl.2 j).2.1.1
          · exact ⟨lo32 _, hi32 _⟩
          · exact (fl.2 j).2.2.1
          · exact (fl.2 j).2.2.2
        · by_cases a4 : 47 ≤ k ∧ k ≤ 62
          · by_cases a5 : k ≤ 54
            · obtain ⟨e, rfl⟩ : ∃ e, k = 47 + e := ⟨k - 47, by omega⟩
              have he : e < 8 := by omega
              have rr := ring e he
              have tb : tbC (47 + e) j = (if j = 0 then (0, 1) else if j = 1 then (0, 11) else if j = 2 then ((-2000000005), 11) else if j = 4 then ((-1), 3) else ((-2147483648), 2147483647)) := by
                rcases e8 he with z | z | z | z | z | z | z | z <;> subst z <;> rfl
              rw [tb]
              by_cases b0 : j = 0
              · subst b0; exact rr.1
              · rw [if_neg b0]
                by_cases b1 : j = 1
                · subst b1; exact rr.2.1
                · rw [if_neg b1]
                  by_cases b2 : j = 2
                  · subst b2; exact rr.2.2.1.1
                  · rw [if_neg b2]
                    by_cases b4 : j = 4
                    · subst b4; exact rr.2.2.2.1
                    · rw [if_neg b4]; exact ⟨lo32 _, hi32 _⟩
            · obtain ⟨e, rfl⟩ : ∃ e, k = 55 + e := ⟨k - 55, by omega⟩
              have he : e < 8 := by omega
              have tb : tbC (55 + e) j = (0, 1000000) := by
                rcases e8 he with z | z | z | z | z | z | z | z <;> subst z <;> rfl
              rw [tb]
              exact (ring e he).2.2.2.2 j
          · rw [same k a1 a2 a3 a4]; exact h1 k j
  · rcases hk with z | z
    · subst z; exact (fl.2 j).2.1.2
    · obtain ⟨e, rfl⟩ : ∃ e, k = 47 + e := ⟨k - 47, by omega⟩
      obtain ⟨-, z2, rfl⟩ := z
      exact (ring e (by omega)).2.2.1.2
  · have s3 := same 3 (by decide) (by decide) (by decide) (by decide)
    have s4 := same 4 (by decide) (by decide) (by decide) (by decide)
    have s9 := same 99 (by decide) (by decide) (by decide) (by decide)
    have e3 : (r 3 1).toInt = (sx 3 1).toInt := by rw [s3]
    refine ⟨by rw [s3, s4]; exact g1, by omega, ?_, fun z => ?_, by rw [s9]; exact g5⟩
    · rw [s3, s4, s9, pw_cg (show r 3 2 = sx 3 2 by rw [s3])]; exact g3
    · omega
theorem im_gen {sm r : Sg} {lm : Lg} (hI : IM sm lm) (same : ∀ k, k ≠ 0 → k ≠ 1 → k ≠ 2 → r k = sm k) (s0 : ∀ j, j ≠ 2 → r 0 j = sm 0 j) (k0 : 0 ≤ (r 0 2).toInt ∧ (r 0 2).toInt ≤ 8) (sv : SV (r 1)) : IM r lm := by
  refine ⟨fun k j => ?_, hI.2.1, sv⟩
  by_cases a0 : k = 0
  · subst a0
    by_cases b : j = 2
    · subst b; exact k0
    · rw [s0 j b]; exact hI.1 0 j
  · by_cases a1 : k = 1
    · subst a1
      by_cases b : j = 0
      · subst b; exact ⟨sv.1, sv.2.1⟩
      · have : tbM 1 j = (-2147483648, 2147483647) := if_neg b
        rw [this]; exact ⟨lo32 _, hi32 _⟩
    · by_cases a2 : k = 2
      · subst a2; exact ⟨lo32 _, hi32 _⟩
      · rw [same k a0 a1 a2]; exact hI.1 k j
theorem ring_KH {sx r : Sg} {v : Int32} (hI : IC0 sx) (h0 : 0 ≤ v.toInt) (h1 : v.toInt ≤ 11) (kh : KH sx v r) : RingOK r := by
  obtain ⟨e, he, q1, -, -, -, -, -, q7, q8, q9, -, q11, q12, -, q14⟩ := kh
  have t1 := rdC2_1 hI
  have k0 : (0 : Int32).toInt = 0 := by decide
  have fl := ic_fl hI
  intro x hx
  have ol := ic_ring hI x hx
  by_cases w : x = e
  · subst w
    refine ⟨by rw [q7, k0]; decide, by rw [q8]; exact ⟨h0, h1⟩, by rw [q9]; exact (fl.2 _).2.1, by rw [q11]; exact (fl.2 _).2.2.1, fun i => ?_⟩
    by_cases w2 : i < 12
    · rw [q12 i w2]; exact (fl.2 _).2.2.2
    · rw [q14 i (by omega)]; exact ol.2.2.2.2 i
  · rw [q1 (47 + x) (by omega) (by omega) (by omega) (by omega), q1 (55 + x) (by omega) (by omega) (by omega) (by omega)]
    exact ol
theorem ring_KN {sx r : Sg} (hI : IC0 sx) (kn : KN sx r) : RingOK r := by
  obtain ⟨e, he, q1, -, -, -, -, -, q7, q8⟩ := kn
  have t1 := rdC2_1 hI
  have k0 : (1 : Int32).toInt = 1 := by decide
  intro x hx
  have ol := ic_ring hI x hx
  by_cases w : x = e
  · subst w
    rw [q7, k0, q8 1 (by decide), q8 2 (by decide), q8 4 (by decide), q1 (55 + x) (by omega) (by omega) (by omega)]
    exact ⟨by decide, ol.2⟩
  · rw [q1 (47 + x) (by omega) (by omega) (by omega), q1 (55 + x) (by omega) (by omega) (by omega)]
    exact ol
theorem ring_cg {sx r : Sg} (h : RingOK sx) (e : ∀ k, 47 ≤ k → k ≤ 62 → r k = sx k) : RingOK r := by
  intro x hx
  rw [e (47 + x) (by omega) (by omega), e (55 + x) (by omega) (by omega)]
  exact h x hx
/-- what holds after so many calls -/
def NS (S : Nat → Int32) : Prop := ∀ h : Nat, (h : Int) < (S 0).toInt → ¬ S (13 + h) = Int32.ofNat h
def NSH (sm : Sg) : Prop := ∀ d, d ≤ (sm 0 2).toInt.toNat → NS (hist sm d)
def KF (K : Sg → Sg → Lg → Prop) : Prop := ∀ (sx sm sx' sm' : Sg) (lm : Lg), IC sx → K sx sm lm → (sx' 1 1).toInt = (sx 1 1).toInt + 1 → (∀ k, k ≠ 1 → k ≠ 2 → ¬ (11 ≤ k ∧ k ≤ 15) → ¬ (47 ≤ k ∧ k ≤ 62) → sx' k = sx k) → (∀ k, k ≠ 0 → k ≠ 1 → k ≠ 2 → sm' k = sm k) → (∀ j, j ≠ 2 → sm' 0 j = sm 0 j) → (NSH sm → NSH sm') → K sx' sm' lm
def Rel (K : Sg → Sg → Lg → Prop) (n : Nat) (sx sm : Sg) (lm : Lg) : Prop := IC sx ∧ IM sm lm ∧ FRel sx sm ∧ (sx 1 1).toInt ≤ (n : Int) ∧ K sx sm lm
theorem rel_up {K : Sg → Sg → Lg → Prop} {n : Nat} {sx sm : Sg} {lm : Lg} (h : Rel K n sx sm lm) : Rel K (n + 1) sx sm lm := ⟨h.1, h.2.1, h.2.2.1, by have := h.2.2.2.1; omega, h.2.2.2.2⟩
theorem ns_cg {F G : Nat → Int32} (h : NS F) (s : (G 0).toInt ≤ 12) (e : ∀ j, j < 193 → G j = F j) : NS G := fun x hx => by
  rw [e _ (by omega)]
  exact h x (by rw [← e 0 (by decide)]; exact hx)
theorem nsh_keep {sx sm sm2 m1 : Sg} {lm l1 : Lg} (sv : SV (sm 1)) (hF : FRel sx sm) (k8 : (sm 0 2).toInt ≤ 8) (k0 : 0 ≤ (sm 0 2).toInt) (kp : KP sm lm (m1, l1)) (e0 : sm2 0 = m1 0) (e2 : sm2 2 = m1 2) (h : NSH sm) (new : NS (sm2 1)) : NSH sm2 := by
  obtain ⟨-, -, -, p3, p4⟩ := kp
  replace p3 : (m1 0 2).toInt = (if (sm 0 2).toInt = 8 then 8 else (sm 0 2).toInt + 1) := p3
  replace p4 : ∀ d j, j < 193 → d + 1 ≤ (m1 0 2).toInt.toNat → hist m1 (d + 1) j = hist sm d j := p4
  intro d hd
  cases d with
  | zero => exact new
  | succ d =>
    have hd' : d + 1 ≤ (m1 0 2).toInt.toNat := by rw [← e0]; exact hd
    have le : d ≤ (sm 0 2).toInt.toNat := by
      rw [p3] at hd'
      split at hd' <;> omega
    have e : ∀ j, j < 193 → hist sm2 (d + 1) j = hist sm d j := fun j hj => by
      rw [← p4 d j hj hd']
      show sm2 2 (193 * ((sm2 0 2).toInt.toNat - 1 - d) + j) = m1 2 (193 * ((m1 0 2).toInt.toNat - 1 - d) + j)
      rw [e0, e2]
    refine ns_cg (h d le) ?_ e
    rw [e 0 (by decide)]
    exact (hist_SV sv hF d le).2.1
theorem nsh_undo {sx sm sm2 : Sg} (sv : SV (sm 1)) (hF : FRel sx sm) (k1 : 1 ≤ (sm 0 2).toInt) (e2 : sm2 2 = sm 2) (mk : (sm2 0 2).toInt = (sm 0 2).toInt - 1) (ms : ∀ i, i < 193 → sm2 1 i = hist sm 1 i) (h : NSH sm) : NSH sm2 := by
  intro d hd
  have le : d + 1 ≤ (sm 0 2).toInt.toNat := by omega
  have e : ∀ j, j < 193 → hist sm2 d j = hist sm (d + 1) j := fun j hj => by
    cases d with
    | zero => exact ms j hj
    | succ d =>
      show sm2 2 (193 * ((sm2 0 2).toInt.toNat - 1 - d) + j) = sm 2 (193 * ((sm 0 2).toInt.toNat - 1 - (d + 1)) + j)
      rw [e2, show (sm2 0 2).toInt.toNat - 1 - d = (sm 0 2).toInt.toNat - 1 - (d + 1) by omega]
  refine ns_cg (h (d + 1) le) ?_ e
  rw [e 0 (by decide)]
  exact (hist_SV sv hF (d + 1) le).2.1
theorem opl_of {fx : Option (Int64 × Sg)} {fm : Option (Int64 × Sg × Lg)} {R : Sg → Sg → Lg → Prop} {Px : Int64 × Sg → Prop} {Pm : Int64 × Sg × Lg → Prop} (h1 : Ok Px fx) (h2 : Ok Pm fm) (h : ∀ r sx r' sm lm, Px (r, sx) → Pm (r', sm, lm) → r = r' ∧ R sx sm lm) : OpL true fx fm R := by
  obtain ⟨⟨r, sx⟩, e1, p1⟩ := h1
  obtain ⟨⟨r', sm, lm⟩, e2, p2⟩ := h2
  have := h r sx r' sm lm p1 p2
  exact ⟨r, r', sx, sm, lm, e1, e2, fun _ => this.1, this.2⟩
theorem opl_eq {fx : Option (Int64 × Sg)} {fm : Option (Int64 × Sg × Lg)} {R : Sg → Sg → Lg → Prop} {b : Bool} (h : OpL true fx fm R) : OpL b fx fm R := by
  obtain ⟨r, r', sx, sm, lm, e1, e2, e3, h⟩ := h
  exact ⟨r, r', sx, sm, lm, e1, e2, fun _ => e3 rfl, h⟩
theorem opl_f {fx : Option (Int64 × Sg)} {fm : Option (Int64 × Sg × Lg)} {R : Sg → Sg → Lg → Prop} {Px : Int64 × Sg → Prop} {Pm : Int64 × Sg × Lg → Prop} (h1 : Ok Px fx) (h2 : Ok Pm fm) (h : ∀ r sx r' sm lm, Px (r, sx) → Pm (r', sm, lm) → R sx sm lm) : OpL false fx fm R := by
  obtain ⟨⟨r, sx⟩, e1, p1⟩ := h1
  obtain ⟨⟨r', sm, lm⟩, e2, p2⟩ := h2
  exact ⟨r, r', sx, sm, lm, e1, e2, (fun z => by cases z), h r sx r' sm lm p1 p2⟩
/-! small answers -/
theorem has1 {v : Int32} {sg : Sg} (h0 : 0 ≤ v.toInt) (h1 : v.toInt < (sg 1 0).toInt) : fX2_has v sg = some (1, sg) := by
  have k0 : (0 : Int32).toInt = 0 := by decide
  unfold fX2_has
  rw [if_neg (by rw [i_lt]; omega), if_neg (by rw [i_le]; omega)]
theorem has0 {v : Int32} {sg : Sg} (h : ¬ (0 ≤ v.toInt ∧ v.toInt < (sg 1 0).toInt)) : fX2_has v sg = some (0, sg) := by
  have k0 : (0 : Int32).toInt = 0 := by decide
  unfold fX2_has
  by_cases c : v < 0
  · rw [if_pos c]
  · rw [if_neg c, if_pos (by rw [i_le]; rw [i_lt] at c; omega)]
def oth (v0 v1 : Int32) : Prop := 0 ≤ v1.toInt ∧ v1.toInt ≤ 11 ∧ v1 ≠ v0
def mayA (v0 v1 : Int32) : Prop := v1 = -2000000005 ∨ oth v0 v1
theorem oth1 {v0 v1 : Int32} {sg : Sg} (h : oth v0 v1) : fX11_isOther v0 v1 sg = some (1, sg) := by
  have k0 : (0 : Int32).toInt = 0 := by decide
  have k12 : (12 : Int32).toInt = 12 := by decide
  unfold fX11_isOther
  obtain ⟨a, b, c⟩ := h
  rw [if_neg (by rw [i_lt]; omega), if_neg (by rw [i_le]; omega), if_neg c]
theorem oth0 {v0 v1 : Int32} {sg : Sg} (h : ¬ oth v0 v1) : fX11_isOther v0 v1 sg = some (0, sg) := by
  have k0 : (0 : Int32).toInt = 0 := by decide
  have k12 : (12 : Int32).toInt = 12 := by decide
  unfold fX11_isOther
  by_cases a : v1 < 0
  · rw [if_pos a]
  · rw [if_neg a]
    by_cases b : (12 : Int32) ≤ v1
    · rw [if_pos b]
    · rw [if_neg b]
      by_cases c : v1 = v0
      · rw [if_pos c]
      · exact absurd ⟨by rw [i_lt] at a; omega, by rw [i_le] at b; omega, c⟩ h
theorem may1 {v0 v1 : Int32} {sg : Sg} (h : mayA v0 v1) : fX11_mayAskFor v0 v1 sg = some (1, sg) := by
  unfold fX11_mayAskFor
  by_cases c : v1 = (-2000000005 : Int32)
  · rw [if_pos c]
  · rw [if_neg c]
    rcases h with z | z
    · exact absurd z c
    · rw [oth1 z]; rfl
theorem may0 {v0 v1 : Int32} {sg : Sg} (h : ¬ mayA v0 v1) : fX11_mayAskFor v0 v1 sg = some (0, sg) := by
  unfold fX11_mayAskFor
  rw [if_neg (fun z => h (Or.inl z)), oth0 (fun z => h (Or.inr z))]
  rfl
theorem mayM1 {v0 v1 : Int32} {sg : Sg} {lg : Lg} (h : mayA v0 v1) : fX12_mayAsk v0 v1 sg lg = some (1, sg, lg) := by
  have k0 : (0 : Int64).toInt = 0 := by decide
  have k11 : (11 : Int64).toInt = 11 := by decide
  unfold fX12_mayAsk
  by_cases c : v1 = (-2000000005 : Int32)
  · rw [if_pos c]
  · rw [if_neg c]
    rcases h with z | z
    · exact absurd z c
    · obtain ⟨a, b, d⟩ := z
      rw [isIn1 (by rw [Int32.toInt_toInt64]; omega) (by rw [Int32.toInt_toInt64]; omega)]
      simp only [bnd3_s]
      rw [ite1, if_neg d]
theorem mayM0 {v0 v1 : Int32} {sg : Sg} {lg : Lg} (h : ¬ mayA v0 v1) : fX12_mayAsk v0 v1 sg lg = some (0, sg, lg) := by
  have k0 : (0 : Int64).toInt = 0 := by decide
  have k11 : (11 : Int64).toInt = 11 := by decide
  unfold fX12_mayAsk
  rw [if_neg (fun z => h (Or.inl z))]
  by_cases a : 0 ≤ v1.toInt ∧ v1.toInt ≤ 11
  · rw [isIn1 (by rw [Int32.toInt_toInt64]; omega) (by rw [Int32.toInt_toInt64]; omega)]
    simp only [bnd3_s]
    rw [ite1]
    by_cases d : v1 = v0
    · rw [if_pos d]
    · exact absurd (Or.inr ⟨a.1, a.2, d⟩) h
  · rw [isIn0 (by rw [Int32.toInt_toInt64]; omega)]
    rfl
theorem may_ask {v0 v1 : Int32} (h : mayA v0 v1) : askP v1 := by
  have k : (-2000000005 : Int32).toInt = -2000000005 := by decide
  rcases h with z | z
  · exact ⟨by rw [z, k]; decide, Or.inl z⟩
  · exact ⟨⟨by have := z.1; omega, z.2.1⟩, Or.inr z.1⟩
theorem asks_n {v1 : Int32} {sg : Sg} {lg : Lg} (h0 : 0 ≤ v1.toInt) (h1 : v1.toInt ≤ 11) : fX12_asks v1 sg lg = some (sg 1 (13 + v1.toNatClampNeg), sg, lg) := by
  have i := ix_add (c := (13 : Int32)) (v := v1) 13 (by decide) (by decide) h0 (by omega)
  rw [asks_is h0 h1, i.1]