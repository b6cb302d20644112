/-! prepare: the loop over the slots -/
/-- entries of the empty set stay 0 -/
def Z6 (sg : Sg) : Prop := (∀ o, o < 12 → sg 25 (64 * o) = 0 ∧ sg 26 (64 * o) = 0) ∧ sg 27 0 = 0 ∧ sg 28 0 = 0 ∧ sg 29 0 = 0 ∧ sg 30 0 = 0
/-- v slots have been spread -/
def HP (A r : Sg) (v : Nat) : Prop := (∀ k, ¬ (25 ≤ k ∧ k ≤ 30) → r k = A k) ∧
  (∀ o x, o < (A 3 2).toInt.toNat → x < 2 ^ min v 6 → (r 25 (64 * o + x)).toInt = S6 (fun j => pk A o j) x 6) ∧
  (∀ o x, o < (A 3 2).toInt.toNat → x < 2 ^ (v - 6) → (r 26 (64 * o + x)).toInt = S6 (fun j => pk A o (6 + j)) x 6) ∧
  (∀ x t, x < 2 ^ min v 6 → t < 12 → (bt (r 27 x) t ↔ U6 (fun j t => bt (A 21 j) t) x t 6)) ∧
  (∀ x t, x < 2 ^ (v - 6) → t < 12 → (bt (r 28 x) t ↔ U6 (fun j t => bt (A 21 (6 + j)) t) x t 6)) ∧
  (∀ x t, x < 2 ^ min v 6 → t < 12 → (bt (r 29 x) t ↔ U6 (fun j t => bt (A 22 j) t) x t 6)) ∧
  (∀ x t, x < 2 ^ (v - 6) → t < 12 → (bt (r 30 x) t ↔ U6 (fun j t => bt (A 22 (6 + j)) t) x t 6)) ∧ Z6 r
theorem ic_u27 {C r : Sg} {v : Int32} {E : Nat} (h : IC0 C) (e : ∀ k, k ≠ 27 → r k = C k) (e2 : ∀ i, r 27 i = if E ≤ i ∧ i < E + E then C 27 (i - E) ||| v else C 27 i) (v0 : 0 ≤ v.toInt) (v1 : v.toInt ≤ 4095) : IC0 r := by
  refine ⟨fun k j => ?_, fun k j hk => by rw [e k (by omega)]; exact h.2 k j hk⟩
  by_cases c : k = 27
  · subst c
    show 0 ≤ (r 27 j).toInt ∧ (r 27 j).toInt ≤ 4095
    rw [e2]
    split
    · exact (or_n (rdC27 h).1 (rdC27 h).2 v0 v1).2
    · exact rdC27 h
  · rw [e k c]; exact h.1 k j
theorem ic_u28 {C r : Sg} {v : Int32} {E : Nat} (h : IC0 C) (e : ∀ k, k ≠ 28 → r k = C k) (e2 : ∀ i, r 28 i = if E ≤ i ∧ i < E + E then C 28 (i - E) ||| v else C 28 i) (v0 : 0 ≤ v.toInt) (v1 : v.toInt ≤ 4095) : IC0 r := by
  refine ⟨fun k j => ?_, fun k j hk => by rw [e k (by omega)]; exact h.2 k j hk⟩
  by_cases c : k = 28
  · subst c
    show 0 ≤ (r 28 j).toInt ∧ (r 28 j).toInt ≤ 4095
    rw [e2]
    split
    · exact (or_n (rdC28 h).1 (rdC28 h).2 v0 v1).2
    · exact rdC28 h
  · rw [e k c]; exact h.1 k j
theorem ic_u29 {C r : Sg} {v : Int32} {E : Nat} (h : IC0 C) (e : ∀ k, k ≠ 29 → r k = C k) (e2 : ∀ i, r 29 i = if E ≤ i ∧ i < E + E then C 29 (i - E) ||| v else C 29 i) (v0 : 0 ≤ v.toInt) (v1 : v.toInt ≤ 4095) : IC0 r := by
  refine ⟨fun k j => ?_, fun k j hk => by rw [e k (by omega)]; exact h.2 k j hk⟩
  by_cases c : k = 29
  · subst c
    show 0 ≤ (r 29 j).toInt ∧ (r 29 j).toInt ≤ 4095
    rw [e2]
    split
    · exact (or_n (rdC29 h).1 (rdC29 h).2 v0 v1).2
    · exact rdC29 h
  · rw [e k c]; exact h.1 k j
theorem ic_u30 {C r : Sg} {v : Int32} {E : Nat} (h : IC0 C) (e : ∀ k, k ≠ 30 → r k = C k) (e2 : ∀ i, r 30 i = if E ≤ i ∧ i < E + E then C 30 (i - E) ||| v else C 30 i) (v0 : 0 ≤ v.toInt) (v1 : v.toInt ≤ 4095) : IC0 r := by
  refine ⟨fun k j => ?_, fun k j hk => by rw [e k (by omega)]; exact h.2 k j hk⟩
  by_cases c : k = 30
  · subst c
    show 0 ≤ (r 30 j).toInt ∧ (r 30 j).toInt ≤ 4095
    rw [e2]
    split
    · exact (or_n (rdC30 h).1 (rdC30 h).2 v0 v1).2
    · exact rdC30 h
  · rw [e k c]; exact h.1 k j
theorem ic_s25 {C r : Sg} (h : IC0 C) (e : ∀ k, k ≠ 25 → r k = C k) : IC0 r := by
  refine ⟨fun k j => ?_, fun k j hk => by rw [e k (by omega)]; exact h.2 k j hk⟩
  by_cases c : k = 25
  · subst c
    exact ⟨lo32 _, hi32 _⟩
  · rw [e k c]; exact h.1 k j
theorem ic_s26 {C r : Sg} (h : IC0 C) (e : ∀ k, k ≠ 26 → r k = C k) : IC0 r := by
  refine ⟨fun k j => ?_, fun k j hk => by rw [e k (by omega)]; exact h.2 k j hk⟩
  by_cases c : k = 26
  · subst c
    exact ⟨lo32 _, hi32 _⟩
  · rw [e k c]; exact h.1 k j
set_option maxHeartbeats 4000000 in
theorem hp_lo {A sg : Sg} {r35 : (Int32 × Sg) → Option Sg} {P : Sg → Prop} {v1 w0 : Int32} (hI : IC0 sg) (a0 : 0 ≤ v1.toInt) (a1 : v1.toInt < (A 3 2).toInt) (hb : v1.toInt ≤ 5 ∧ w0.toInt = v1.toInt) (h : HP A sg v1.toInt.toNat) (hr : ∀ (x : Int32) (sg' : Sg), x.toInt = v1.toInt + 1 → IC0 sg' → HP A sg' (v1.toInt.toNat + 1) → Ok P (r35 (x, sg'))) : Ok P (fX4_prepare_70 r35 v1 (1 : Int32) w0 sg) := by
  obtain ⟨p0, p25, p26, p27, p28, p29, p30, z⟩ := h
  have hn := rdC3_2 hI
  have e3 := p0 3 (by decide)
  have hc := cl_i a0
  have u := rdC21 hI (j := v1.toNatClampNeg)
  have u2 := rdC22 hI (j := v1.toNatClampNeg)
  have n3 : (sg 3 2).toInt = (A 3 2).toInt := by rw [e3]
  have eb : w0.toInt.toNat = v1.toInt.toNat := by omega
  unfold fX4_prepare_70
  rw [ite1]
  refine ok_gin (by omega) (by omega) ?_
  refine ok_bnd1 (h_uni27 (v1 := w0) (v2 := sg 21 v1.toNatClampNeg) (by omega) (by omega)) (fun s3 h3 => ?_)
  obtain ⟨g1, g2⟩ := h3
  rw [ite1]
  refine ok_gin (by omega) (by omega) ?_
  refine ok_bnd1 (h_uni29 (v1 := w0) (v2 := s3 22 v1.toNatClampNeg) (by omega) (by omega)) (fun s7 h7 => ?_)
  obtain ⟨f1, f2⟩ := h7
  rw [g1 22 (by decide), g1 29 (by decide)] at f2
  have i3 : IC0 s3 := ic_u27 hI g1 g2 u.1 u.2
  have i7 : IC0 s7 := ic_u29 i3 f1 (fun i => by rw [g1 29 (by decide)]; exact f2 i) u2.1 u2.2
  have k7 : ∀ k, k ≠ 27 → k ≠ 29 → s7 k = sg k := fun k x y => by rw [f1 k y, g1 k x]
  have c7 : (s7 3 2).toInt = (A 3 2).toInt := by rw [k7 3 (by decide) (by decide)]; exact n3
  have pkA : ∀ o j, pk s7 o j = pk A o j := fun o j => by unfold pk; rw [k7 23 (by decide) (by decide), p0 23 (by decide)]
  have eu : s7 27 = s3 27 := f1 27 (by decide)
  rw [eb] at g2 f2
  have b1 : v1.toInt.toNat < 6 := by omega
  refine h_130_25 (C := s7) i7 a0 (by rw [c7]; exact a1) (by omega) (fun o x ho hx => ?_) (fun x sg' hx hcs => ?_)
  · rw [c7] at ho
    rw [eb] at hx
    rw [k7 25 (by decide) (by decide), p25 o x ho (by rw [show min v1.toInt.toNat 6 = v1.toInt.toNat by omega]; exact hx)]
    refine S6_cg 6 (fun j hj => ?_)
    show pk A o (j) = pk s7 o (v1.toInt.toNat - w0.toInt.toNat + j)
    rw [pkA, show v1.toInt.toNat - w0.toInt.toNat + j = j by omega]
  · obtain ⟨y0, y1, y2⟩ := hcs
    rw [c7] at y1 y2
    rw [eb] at y1
    have i' : IC0 sg' := ic_s25 i7 y0
    have kk : ∀ k, k ≠ 25 → k ≠ 27 → k ≠ 29 → sg' k = sg k := fun k a b c => by rw [y0 k a]; exact k7 k b c
    have eU : sg' 27 = s3 27 := by rw [y0 27 (by decide)]; exact eu
    have eQ : sg' 29 = s7 29 := y0 29 (by decide)
    have e21 := p0 21 (by decide)
    have e22 := p0 22 (by decide)
    have new25 : ∀ o x, o < (A 3 2).toInt.toNat → x < 2 ^ (v1.toInt.toNat + 1) → (sg' 25 (64 * o + x)).toInt = S6 (fun j => pk A o (j)) x 6 := fun o x ho hx => by
      rw [y1 o x ho hx]
      refine S6_cg 6 (fun j hj => ?_)
      show pk s7 o (v1.toInt.toNat - v1.toInt.toNat + j) = pk A o (j)
      rw [pkA, show v1.toInt.toNat - v1.toInt.toNat + j = j by omega]
    have new27 : ∀ x t, x < 2 ^ (v1.toInt.toNat + 1) → t < 12 → (bt (sg' 27 x) t ↔ U6 (fun j t => bt (A 21 (j)) t) x t 6) := by
      rw [eU]
      exact row_uni (R := sg 27) (v := sg 21 v1.toNatClampNeg) b1 (fun i => rdC27 hI) u.1 u.2 (fun t _ => by rw [e21, show v1.toNatClampNeg = (v1.toInt.toNat) by omega]) (fun x t hx ht => p27 x t (by rw [show min v1.toInt.toNat 6 = v1.toInt.toNat by omega]; exact hx) ht) g2
    have new29 : ∀ x t, x < 2 ^ (v1.toInt.toNat + 1) → t < 12 → (bt (sg' 29 x) t ↔ U6 (fun j t => bt (A 22 (j)) t) x t 6) := by
      rw [eQ]
      exact row_uni (R := sg 29) (v := sg 22 v1.toNatClampNeg) b1 (fun i => rdC29 hI) u2.1 u2.2 (fun t _ => by rw [e22, show v1.toNatClampNeg = (v1.toInt.toNat) by omega]) (fun x t hx ht => p29 x t (by rw [show min v1.toInt.toNat 6 = v1.toInt.toNat by omega]; exact hx) ht) f2
    have pos : 0 < 2 ^ (v1.toInt.toNat) := Nat.pow_pos (by decide)
    refine hr x sg' hx i' ⟨fun k hk => ?_, fun o x ho hx => ?_, fun o x ho hx => ?_, fun x t hx ht => ?_, fun x t hx ht => ?_, fun x t hx ht => ?_, fun x t hx ht => ?_, ?_⟩
    · rw [kk k (by omega) (by omega) (by omega)]; exact p0 k hk
    · refine new25 o x ho ?_
      rw [show min (v1.toInt.toNat + 1) 6 = v1.toInt.toNat + 1 by omega] at hx
      exact hx
    · rw [kk 26 (by decide) (by decide) (by decide)]
      refine p26 o x ho ?_
      rw [show v1.toInt.toNat + 1 - 6 = v1.toInt.toNat - 6 by omega] at hx
      exact hx
    · refine new27 x t ?_ ht
      rw [show min (v1.toInt.toNat + 1) 6 = v1.toInt.toNat + 1 by omega] at hx
      exact hx
    · rw [kk 28 (by decide) (by decide) (by decide)]
      refine p28 x t ?_ ht
      rw [show v1.toInt.toNat + 1 - 6 = v1.toInt.toNat - 6 by omega] at hx
      exact hx
    · refine new29 x t ?_ ht
      rw [show min (v1.toInt.toNat + 1) 6 = v1.toInt.toNat + 1 by omega] at hx
      exact hx
    · rw [kk 30 (by decide) (by decide) (by decide)]
      refine p30 x t ?_ ht
      rw [show v1.toInt.toNat + 1 - 6 = v1.toInt.toNat - 6 by omega] at hx
      exact hx
    · obtain ⟨z1, z2, z3, z4, z5⟩ := z
      refine ⟨fun o ho => ?_, ?_, ?_, ?_, ?_⟩
      · have q := z1 o ho
        rw [kk 26 (by decide) (by decide) (by decide)]
        refine ⟨?_, q.2⟩
        by_cases w : o < (A 3 2).toInt.toNat
        · have := new25 o 0 w (Nat.pow_pos (by decide))
          rw [S6_0, Nat.add_zero] at this
          exact Int32.toInt_inj.mp (by rw [this]; decide)
        · have := y2 o 0 (by omega) (by decide)
          rw [Nat.add_zero] at this
          rw [this, k7 25 (by decide) (by decide)]
          exact q.1
      · rw [eU, g2 0, if_neg (by omega)]; exact z2
      · rw [kk 28 (by decide) (by decide) (by decide)]; exact z3
      · rw [eQ, f2 0, if_neg (by omega)]; exact z4
      · rw [kk 30 (by decide) (by decide) (by decide)]; exact z5
set_option maxHeartbeats 4000000 in
theorem hp_hi {A sg : Sg} {r35 : (Int32 × Sg) → Option Sg} {P : Sg → Prop} {v1 w0 : Int32} (hI : IC0 sg) (a0 : 0 ≤ v1.toInt) (a1 : v1.toInt < (A 3 2).toInt) (hb : 6 ≤ v1.toInt ∧ w0.toInt = v1.toInt - 6) (h : HP A sg v1.toInt.toNat) (hr : ∀ (x : Int32) (sg' : Sg), x.toInt = v1.toInt + 1 → IC0 sg' → HP A sg' (v1.toInt.toNat + 1) → Ok P (r35 (x, sg'))) : Ok P (fX4_prepare_70 r35 v1 (0 : Int32) w0 sg) := by
  obtain ⟨p0, p25, p26, p27, p28, p29, p30, z⟩ := h
  have hn := rdC3_2 hI
  have e3 := p0 3 (by decide)
  have hc := cl_i a0
  have u := rdC21 hI (j := v1.toNatClampNeg)
  have u2 := rdC22 hI (j := v1.toNatClampNeg)
  have n3 : (sg 3 2).toInt = (A 3 2).toInt := by rw [e3]
  have eb : w0.toInt.toNat = (v1.toInt.toNat - 6) := by omega
  unfold fX4_prepare_70
  rw [ite0]
  refine ok_gin (by omega) (by omega) ?_
  refine ok_bnd1 (h_uni28 (v1 := w0) (v2 := sg 21 v1.toNatClampNeg) (by omega) (by omega)) (fun s3 h3 => ?_)
  obtain ⟨g1, g2⟩ := h3
  rw [ite0]
  refine ok_gin (by omega) (by omega) ?_
  refine ok_bnd1 (h_uni30 (v1 := w0) (v2 := s3 22 v1.toNatClampNeg) (by omega) (by omega)) (fun s7 h7 => ?_)
  obtain ⟨f1, f2⟩ := h7
  rw [g1 22 (by decide), g1 30 (by decide)] at f2
  have i3 : IC0 s3 := ic_u28 hI g1 g2 u.1 u.2
  have i7 : IC0 s7 := ic_u30 i3 f1 (fun i => by rw [g1 30 (by decide)]; exact f2 i) u2.1 u2.2
  have k7 : ∀ k, k ≠ 28 → k ≠ 30 → s7 k = sg k := fun k x y => by rw [f1 k y, g1 k x]
  have c7 : (s7 3 2).toInt = (A 3 2).toInt := by rw [k7 3 (by decide) (by decide)]; exact n3
  have pkA : ∀ o j, pk s7 o j = pk A o j := fun o j => by unfold pk; rw [k7 23 (by decide) (by decide), p0 23 (by decide)]
  have eu : s7 28 = s3 28 := f1 28 (by decide)
  rw [eb] at g2 f2
  have b1 : (v1.toInt.toNat - 6) < 6 := by omega
  refine h_130_26 (C := s7) i7 a0 (by rw [c7]; exact a1) (by omega) (fun o x ho hx => ?_) (fun x sg' hx hcs => ?_)
  · rw [c7] at ho
    rw [eb] at hx
    rw [k7 26 (by decide) (by decide), p26 o x ho (by rw [show v1.toInt.toNat - 6 = (v1.toInt.toNat - 6) by omega]; exact hx)]
    refine S6_cg 6 (fun j hj => ?_)
    show pk A o (6 + j) = pk s7 o (v1.toInt.toNat - w0.toInt.toNat + j)
    rw [pkA, show v1.toInt.toNat - w0.toInt.toNat + j = 6 + j by omega]
  · obtain ⟨y0, y1, y2⟩ := hcs
    rw [c7] at y1 y2
    rw [eb] at y1
    have i' : IC0 sg' := ic_s26 i7 y0
    have kk : ∀ k, k ≠ 26 → k ≠ 28 → k ≠ 30 → sg' k = sg k := fun k a b c => by rw [y0 k a]; exact k7 k b c
    have eU : sg' 28 = s3 28 := by rw [y0 28 (by decide)]; exact eu
    have eQ : sg' 30 = s7 30 := y0 30 (by decide)
    have e21 := p0 21 (by decide)
    have e22 := p0 22 (by decide)
    have new26 : ∀ o x, o < (A 3 2).toInt.toNat → x < 2 ^ ((v1.toInt.toNat - 6) + 1) → (sg' 26 (64 * o + x)).toInt = S6 (fun j => pk A o (6 + j)) x 6 := fun o x ho hx => by
      rw [y1 o x ho hx]
      refine S6_cg 6 (fun j hj => ?_)
      show pk s7 o (v1.toInt.toNat - (v1.toInt.toNat - 6) + j) = pk A o (6 + j)
      rw [pkA, show v1.toInt.toNat - (v1.toInt.toNat - 6) + j = 6 + j by omega]
    have new28 : ∀ x t, x < 2 ^ ((v1.toInt.toNat - 6) + 1) → t < 12 → (bt (sg' 28 x) t ↔ U6 (fun j t => bt (A 21 (6 + j)) t) x t 6) := by
      rw [eU]
      exact row_uni (R := sg 28) (v := sg 21 v1.toNatClampNeg) b1 (fun i => rdC28 hI) u.1 u.2 (fun t _ => by rw [e21, show v1.toNatClampNeg = 6 + ((v1.toInt.toNat - 6)) by omega]) (fun x t hx ht => p28 x t (by rw [show v1.toInt.toNat - 6 = (v1.toInt.toNat - 6) by omega]; exact hx) ht) g2
    have new30 : ∀ x t, x < 2 ^ ((v1.toInt.toNat - 6) + 1) → t < 12 → (bt (sg' 30 x) t ↔ U6 (fun j t => bt (A 22 (6 + j)) t) x t 6) := by
      rw [eQ]
      exact row_uni (R := sg 30) (v := sg 22 v1.toNatClampNeg) b1 (fun i => rdC30 hI) u2.1 u2.2 (fun t _ => by rw [e22, show v1.toNatClampNeg = 6 + ((v1.toInt.toNat - 6)) by omega]) (fun x t hx ht => p30 x t (by rw [show v1.toInt.toNat - 6 = (v1.toInt.toNat - 6) by omega]; exact hx) ht) f2
    have pos : 0 < 2 ^ ((v1.toInt.toNat - 6)) := Nat.pow_pos (by decide)
    refine hr x sg' hx i' ⟨fun k hk => ?_, fun o x ho hx => ?_, fun o x ho hx => ?_, fun x t hx ht => ?_, fun x t hx ht => ?_, fun x t hx ht => ?_, fun x t hx ht => ?_, ?_⟩
    · rw [kk k (by omega) (by omega) (by omega)]; exact p0 k hk
    · rw [kk 25 (by decide) (by decide) (by decide)]
      refine p25 o x ho ?_
      rw [show min (v1.toInt.toNat + 1) 6 = min v1.toInt.toNat 6 by omega] at hx
      exact hx
    · refine new26 o x ho ?_
      rw [show v1.toInt.toNat + 1 - 6 = (v1.toInt.toNat - 6) + 1 by omega] at hx
      exact hx
    · rw [kk 27 (by decide) (by decide) (by decide)]
      refine p27 x t ?_ ht
      rw [show min (v1.toInt.toNat + 1) 6 = min v1.toInt.toNat 6 by omega] at hx
      exact hx
    · refine new28 x t ?_ ht
      rw [show v1.toInt.toNat + 1 - 6 = (v1.toInt.toNat - 6) + 1 by omega] at hx
      exact hx
    · rw [kk 29 (by decide) (by decide) (by decide)]
      refine p29 x t ?_ ht
      rw [show min (v1.toInt.toNat + 1) 6 = min v1.toInt.toNat 6 by omega] at hx
      exact hx
    · refine new30 x t ?_ ht
      rw [show v1.toInt.toNat + 1 - 6 = (v1.toInt.toNat - 6) + 1 by omega] at hx
      exact hx
    · obtain ⟨z1, z2, z3, z4, z5⟩ := z
      refine ⟨fun o ho => ?_, ?_, ?_, ?_, ?_⟩
      · have q := z1 o ho
        rw [kk 25 (by decide) (by decide) (by decide)]
        refine ⟨q.1, ?_⟩
        by_cases w : o < (A 3 2).toInt.toNat
        · have := new26 o 0 w (Nat.pow_pos (by decide))
          rw [S6_0, Nat.add_zero] at this
          exact Int32.toInt_inj.mp (by rw [this]; decide)
        · have := y2 o 0 (by omega) (by decide)
          rw [Nat.add_zero] at this
          rw [this, k7 26 (by decide) (by decide)]
          exact q.2
      · rw [kk 27 (by decide) (by decide) (by decide)]; exact z2
      · rw [eU, g2 0, if_neg (by omega)]; exact z3
      · rw [kk 29 (by decide) (by decide) (by decide)]; exact z4
      · rw [eQ, f2 0, if_neg (by omega)]; exact z5
set_option maxHeartbeats 4000000 in
theorem h_35 {A : Sg} (hI : IC0 A) (z : Z6 A) : Ok (fun r => IC0 r ∧ HP A r (A 3 2).toInt.toNat) (LX4_prepare_35 ((0 : Int32), A)) := by
  have k0 : (0 : Int32).toInt = 0 := by decide
  have k6 : (6 : Int32).toInt = 6 := by decide
  have hn := rdC3_2 hI
  unfold LX4_prepare_35
  refine ok_loop (I := fun (q : Int32 × Sg) => 0 ≤ q.1.toInt ∧ q.1.toInt ≤ (A 3 2).toInt ∧ IC0 q.2 ∧ HP A q.2 q.1.toInt.toNat) (m := fun (q : Int32 × Sg) => (13 - q.1.toInt).toNat) _ ?_ ?_ _ ?_
  · intro q hq
    have := hq.1
    show (13 - q.1.toInt).toNat < 10000
    omega
  · intro rec q hq hrec
    obtain ⟨v1, sg⟩ := q
    replace hq : 0 ≤ v1.toInt ∧ v1.toInt ≤ (A 3 2).toInt ∧ IC0 sg ∧ HP A sg v1.toInt.toNat := hq
    obtain ⟨q0, q1, q2, q3⟩ := hq
    show Ok _ (fX4_prepare_35 rec v1 sg)
    unfold fX4_prepare_35
    have e3 : sg 3 2 = A 3 2 := by rw [q3.1 3 (by decide)]
    rw [e3]
    have go : v1.toInt < (A 3 2).toInt → ∀ (x : Int32) (sg' : Sg), x.toInt = v1.toInt + 1 → IC0 sg' → HP A sg' (v1.toInt.toNat + 1) → Ok (fun r => IC0 r ∧ HP A r (A 3 2).toInt.toNat) (rec (x, sg')) := by
      intro c x sg' hx i' h'
      refine hrec (x, sg') ⟨by show 0 ≤ x.toInt; omega, by show x.toInt ≤ (A 3 2).toInt; omega, i', ?_⟩ (show (13 - x.toInt).toNat < (13 - v1.toInt).toNat by omega)
      show HP A sg' x.toInt.toNat
      rw [show x.toInt.toNat = v1.toInt.toNat + 1 by omega]
      exact h'
    refine ok_ite (fun c => ?_) (fun c => ?_)
    · replace c := i_le.mp c
      refine ok_some ⟨q2, ?_⟩
      rw [show (A 3 2).toInt.toNat = v1.toInt.toNat by omega]
      exact q3
    · replace c := i_nle.mp c
      refine ok_ite (fun d => ?_) (fun d => ?_)
      · replace d := i_le.mp d
        unfold fX4_prepare_57
        rw [ite0]
        have f6 := sub_c (a := v1) (b := (6 : Int32)) 6 k6 (by omega) (by omega)
        exact hp_hi q2 q0 c (by omega) q3 (go c)
      · replace d := i_nle.mp d
        unfold fX4_prepare_57
        rw [ite1]
        exact hp_lo q2 q0 c (by omega) q3 (go c)
  · refine ⟨by show 0 ≤ (0 : Int32).toInt; omega, by show (0 : Int32).toInt ≤ (A 3 2).toInt; omega, hI, ?_⟩
    show HP A A (0 : Int32).toInt.toNat
    rw [k0]
    obtain ⟨z1, z2, z3, z4, z5⟩ := z
    have one : ∀ x, x < 2 ^ min (Int.toNat 0) 6 → x = 0 := fun x hx => by
      have : (2 : Nat) ^ min (Int.toNat 0) 6 = 1 := by decide
      omega
    have one' : ∀ x, x < 2 ^ (Int.toNat 0 - 6) → x = 0 := fun x hx => by
      have : (2 : Nat) ^ (Int.toNat 0 - 6) = 1 := by decide
      omega
    have bt0 : ∀ t, t < 12 → ¬ bt 0 t := by
      unfold bt
      decide +kernel
    refine ⟨fun _ _ => rfl, fun o x ho hx => ?_, fun o x ho hx => ?_, fun x t hx ht => ?_, fun x t hx ht => ?_, fun x t hx ht => ?_, fun x t hx ht => ?_, z1, z2, z3, z4, z5⟩
    · rw [one x hx, Nat.add_zero, (z1 o (by omega)).1, S6_0]; exact k0
    · rw [one' x hx, Nat.add_zero, (z1 o (by omega)).2, S6_0]; exact k0
    · rw [one x hx, z2]; exact ⟨fun y => absurd y (bt0 t ht), fun y => absurd y U6_0⟩
    · rw [one' x hx, z3]; exact ⟨fun y => absurd y (bt0 t ht), fun y => absurd y U6_0⟩
    · rw [one x hx, z4]; exact ⟨fun y => absurd y (bt0 t ht), fun y => absurd y U6_0⟩
    · rw [one' x hx, z5]; exact ⟨fun y => absurd y (bt0 t ht), fun y => absurd y U6_0⟩
/-- the halves are up to date -/
def HC (sg : Sg) : Prop := HP sg sg (sg 3 2).toInt.toNat
theorem hc_of {A r : Sg} (h : HP A r (A 3 2).toInt.toNat) : HC r := by
  have e3 := (h.1 3 (by decide)).symm
  have e21 := (h.1 21 (by decide)).symm
  have e22 := (h.1 22 (by decide)).symm
  have e23 := (h.1 23 (by decide)).symm
  unfold HC
  unfold HP pk at h ⊢
  rw [e3, e21, e22, e23] at h
  exact ⟨fun _ _ => rfl, h.2⟩
theorem z6_cg {sg r : Sg} (h : Z6 sg) (e : ∀ k, 25 ≤ k → k ≤ 30 → r k = sg k) : Z6 r := by
  unfold Z6 at h ⊢
  rw [e 25 (by decide) (by decide), e 26 (by decide) (by decide), e 27 (by decide) (by decide), e 28 (by decide) (by decide), e 29 (by decide) (by decide), e 30 (by decide) (by decide)]
  exact h
theorem hc_cg {sg r : Sg} (h : HC sg) (e3 : r 3 2 = sg 3 2) (e : ∀ k, 21 ≤ k → k ≤ 30 → k ≠ 24 → r k = sg k) : HC r := by
  unfold HC HP pk at h ⊢
  rw [e3, e 21 (by decide) (by decide) (by decide), e 22 (by decide) (by decide) (by decide), e 23 (by decide) (by decide) (by decide), e 25 (by decide) (by decide) (by decide), e 26 (by decide) (by decide) (by decide), e 27 (by decide) (by decide) (by decide), e 28 (by decide) (by decide) (by decide), e 29 (by decide) (by decide) (by decide), e 30 (by decide) (by decide) (by decide)]
  exact ⟨fun _ _ => rfl, h.2.1, h.2.2.1, h.2.2.2.1, h.2.2.2.2.1, h.2.2.2.2.2.1, h.2.2.2.2.2.2.1, z6_cg h.2.2.2.2.2.2.2 (fun k a b => e k (by omega) b (by omega))⟩
/-! two looks into the halves -/
theorem S6_mod {f : Nat → Int} {x : Nat} : ∀ n, n ≤ 6 → S6 f (x % 64) n = S6 f x n
  | 0, _ => rfl
  | n + 1, h => by
    unfold S6
    rw [S6_mod n (by omega), show (64 : Nat) = 2 ^ 6 by decide, Nat.testBit_mod_two_pow, decide_eq_true (show n < 6 by omega), Bool.true_and]
theorem S6_div {f : Nat → Int} {x : Nat} : ∀ m, S6 f x (6 + m) = S6 f x 6 + S6 (fun j => f (6 + j)) (x / 64) m
  | 0 => by show S6 f x 6 = S6 f x 6 + 0; omega
  | m + 1 => by
    show S6 f x (6 + m) + (if x.testBit (6 + m) then f (6 + m) else 0) = S6 f x 6 + (S6 (fun j => f (6 + j)) (x / 64) m + (if (x / 64).testBit m then f (6 + m) else 0))
    rw [S6_div m, show (64 : Nat) = 2 ^ 6 by decide, Nat.testBit_div_two_pow, Nat.add_comm 6 m]
    omega
theorem S6_split {f : Nat → Int} {x : Nat} : S6 f (x % 64) 6 + S6 (fun j => f (6 + j)) (x / 64) 6 = S6 f x 12 := by
  rw [S6_mod 6 (by decide), ← S6_div 6]
theorem U6_split {f : Nat → Nat → Prop} {x t : Nat} : (U6 f (x % 64) t 6 ∨ U6 (fun j t => f (6 + j) t) (x / 64) t 6) ↔ U6 f x t 12 := by
  constructor
  · rintro (⟨j, a, b, c⟩ | ⟨j, a, b, c⟩)
    · rw [show (64 : Nat) = 2 ^ 6 by decide, Nat.testBit_mod_two_pow, Bool.and_eq_true] at b
      exact ⟨j, by omega, b.2, c⟩
    · rw [show (64 : Nat) = 2 ^ 6 by decide, Nat.testBit_div_two_pow] at b
      exact ⟨6 + j, by omega, by rw [Nat.add_comm]; exact b, c⟩
  · rintro ⟨j, a, b, c⟩
    by_cases w : j < 6
    · left
      exact ⟨j, w, by rw [show (64 : Nat) = 2 ^ 6 by decide, Nat.testBit_mod_two_pow, decide_eq_true w, Bool.true_and]; exact b, c⟩
    · right
      refine ⟨j - 6, by omega, ?_, ?_⟩
      · rw [show (64 : Nat) = 2 ^ 6 by decide, Nat.testBit_div_two_pow, show j - 6 + 6 = j by omega]; exact b
      · show f (6 + (j - 6)) t
        rw [show 6 + (j - 6) = j by omega]; exact c
theorem and_n {a b : Int32} (a0 : 0 ≤ a.toInt) (b0 : 0 ≤ b.toInt) : (a &&& b).toInt.toNat = a.toInt.toNat &&& b.toInt.toNat ∧ 0 ≤ (a &&& b).toInt := by
  have g := and_l (a := a) (b := b) a0
  have n1 := nn_i a0
  have n2 := nn_i b0
  have n3 := nn_i g.1
  have o := nat_and a b
  rw [show a.toBitVec.toNat = a.toInt.toNat by omega, show b.toBitVec.toNat = b.toInt.toNat by omega] at o
  omega
theorem and63 {a : Int32} (a0 : 0 ≤ a.toInt) : (a &&& (63 : Int32)).toInt = a.toInt % 64 := by
  have n := and_n (a := a) (b := (63 : Int32)) a0 (by decide)
  have e : ((63 : Int32).toInt.toNat : Nat) = 2 ^ 6 - 1 := by decide
  rw [e, Nat.and_two_pow_sub_one_eq_mod] at n
  have : (2 : Nat) ^ 6 = 64 := by decide
  rw [this] at n
  omega
theorem shr6 {a : Int32} (a0 : 0 ≤ a.toInt) (a1 : a.toInt ≤ 4095) : ((a >>> ((6 : Int32) &&& 31)) &&& (63 : Int32)).toInt = a.toInt / 64 := by
  have s := shr_is (a := a) (v := (6 : Int32)) (by decide) (by decide)
  have e : ((2 ^ (6 : Int32).toInt.toNat : Nat) : Int) = 64 := by decide
  rw [e] at s
  rw [and63 (by omega), s]
  omega
theorem pw_sp {x n : Nat} (h : x < 2 ^ n) : x % 64 < 2 ^ min n 6 ∧ x / 64 < 2 ^ (n - 6) := by
  have e6 : (2 : Nat) ^ 6 = 64 := by decide
  by_cases w : n ≤ 6
  · rw [show min n 6 = n by omega, show n - 6 = 0 by omega]
    have : 2 ^ n ≤ 2 ^ 6 := Nat.pow_le_pow_right (by decide) w
    refine ⟨by omega, ?_⟩
    rw [Nat.div_eq_of_lt (by omega)]
    exact Nat.pow_pos (by decide)
  · rw [show min n 6 = 6 by omega]
    refine ⟨by omega, ?_⟩
    rw [show n = 6 + (n - 6) by omega, Nat.pow_add, e6] at h
    exact Nat.div_lt_of_lt_mul h
theorem lt4096 {x n : Nat} (h : x < 2 ^ n) (hn : n ≤ 12) : x ≤ 4095 := by
  have : 2 ^ n ≤ 2 ^ 12 := Nat.pow_le_pow_right (by decide) hn
  have : (2 : Nat) ^ 12 = 4096 := by decide
  omega
/-- the pecks of a slot against a set -/
def cs (sg : Sg) (o x : Nat) : Int := S6 (fun j => pk sg o j) x 12
theorem cs_bd {sg : Sg} (hI : IC0 sg) (o x : Nat) : 0 ≤ cs sg o x ∧ cs sg o x ≤ 12000000 := by
  have := S6_bd (f := fun j => pk sg o j) (x := x) (B := 1000000) (fun j => rdC23 hI) (by decide) 12
  unfold cs
  omega
theorem hcost_is {sg : Sg} {a v : Int32} (hI : IC0 sg) (h : HC sg) (a0 : 0 ≤ a.toInt) (a1 : a.toInt.toNat < 2 ^ (sg 3 2).toInt.toNat) (v0 : 0 ≤ v.toInt) (v1 : v.toInt < (sg 3 2).toInt) : ∃ x, fX4_costBelow a v sg = some (x, sg) ∧ x.toInt = cs sg v.toInt.toNat a.toInt.toNat := by
  have hn := rdC3_2 hI
  have m := lt4096 a1 (by omega)
  have f1 := mul_r (a := v) (b := (64 : Int32)) 64 (by decide) (by omega) (by omega)
  have f2 := and63 a0
  have f3 := shr6 (a := a) a0 (by omega)
  have f4 := add_i (a := v * (64 : Int32)) (b := a &&& (63 : Int32)) (by omega) (by omega)
  have f5 := add_i (a := v * (64 : Int32)) (b := (a >>> ((6 : Int32) &&& 31)) &&& (63 : Int32)) (by omega) (by omega)
  have g4 := cl_i (i := v * (64 : Int32) + (a &&& (63 : Int32))) (by omega)
  have g5 := cl_i (i := v * (64 : Int32) + ((a >>> ((6 : Int32) &&& 31)) &&& (63 : Int32))) (by omega)
  obtain ⟨-, h25, h26, -⟩ := h
  have sp := pw_sp a1
  have x25 := h25 v.toInt.toNat (a.toInt.toNat % 64) (by omega) sp.1
  have x26 := h26 v.toInt.toNat (a.toInt.toNat / 64) (by omega) sp.2
  have b1 := S6_bd (f := fun j => pk sg v.toInt.toNat j) (x := a.toInt.toNat % 64) (B := 1000000) (fun j => rdC23 hI) (by decide) 6
  have b2 := S6_bd (f := fun j => pk sg v.toInt.toNat (6 + j)) (x := a.toInt.toNat / 64) (B := 1000000) (fun j => rdC23 hI) (by decide) 6
  refine ⟨sg 25 (64 * v.toInt.toNat + a.toInt.toNat % 64) + sg 26 (64 * v.toInt.toNat + a.toInt.toNat / 64), ?_, ?_⟩
  · unfold fX4_costBelow
    show gin _ 768 (gin _ 768 (some _)) = _
    rw [gin_in (vin_i (by omega) (by omega)), gin_in (vin_i (by omega) (by omega)), show (v * (64 : Int32) + (a &&& (63 : Int32))).toNatClampNeg = 64 * v.toInt.toNat + a.toInt.toNat % 64 by omega, show (v * (64 : Int32) + ((a >>> ((6 : Int32) &&& 31)) &&& (63 : Int32))).toNatClampNeg = 64 * v.toInt.toNat + a.toInt.toNat / 64 by omega]
  · rw [add_i (by omega) (by omega), x25, x26]
    exact S6_split
theorem below_is {sg : Sg} {a : Int32} (hI : IC0 sg) (h : HC sg) (a0 : 0 ≤ a.toInt) (a1 : a.toInt.toNat < 2 ^ (sg 3 2).toInt.toNat) : ∃ x, fX4_mustBeBelow a sg = some (x, sg) ∧ 0 ≤ x.toInt ∧ x.toInt ≤ 4095 ∧ ∀ t, t < 12 → (bt x t ↔ U6 (fun j t => bt (sg 21 j) t) a.toInt.toNat t 12) := by
  have hn := rdC3_2 hI
  have m := lt4096 a1 (by omega)
  have f2 := and63 a0
  have f3 := shr6 (a := a) a0 (by omega)
  have g2 := cl_i (i := a &&& (63 : Int32)) (by omega)
  have g3 := cl_i (i := (a >>> ((6 : Int32) &&& 31)) &&& (63 : Int32)) (by omega)
  obtain ⟨-, -, -, h27, h28, -⟩ := h
  have sp := pw_sp a1
  have r1 := rdC27 hI (j := a.toInt.toNat % 64)
  have r2 := rdC28 hI (j := a.toInt.toNat / 64)
  have o := or_n r1.1 r1.2 r2.1 r2.2
  refine ⟨sg 27 (a.toInt.toNat % 64) ||| sg 28 (a.toInt.toNat / 64), ?_, o.2.1, o.2.2, fun t ht => ?_⟩
  · unfold fX4_mustBeBelow
    show gin _ 64 (gin _ 64 (some _)) = _
    rw [gin_in (vin_i (by omega) (by omega)), gin_in (vin_i (by omega) (by omega)), show (a &&& (63 : Int32)).toNatClampNeg = a.toInt.toNat % 64 by omega, show ((a >>> ((6 : Int32) &&& 31)) &&& (63 : Int32)).toNatClampNeg = a.toInt.toNat / 64 by omega]
  · rw [bt_or2 r1.1 r1.2 r2.1 r2.2 ht, h27 _ t sp.1 ht, h28 _ t sp.2 ht]
    exact U6_split
theorem pairs_is {sg : Sg} {a : Int32} (hI : IC0 sg) (h : HC sg) (a0 : 0 ≤ a.toInt) (a1 : a.toInt.toNat < 2 ^ (sg 3 2).toInt.toNat) : ∃ x, fX4_pairsOf a sg = some (x, sg) ∧ 0 ≤ x.toInt ∧ x.toInt ≤ 4095 ∧ ∀ t, t < 12 → (bt x t ↔ U6 (fun j t => bt (sg 22 j) t) a.toInt.toNat t 12) := by
  have hn := rdC3_2 hI
  have m := lt4096 a1 (by omega)
  have f2 := and63 a0
  have f3 := shr6 (a := a) a0 (by omega)
  have g2 := cl_i (i := a &&& (63 : Int32)) (by omega)
  have g3 := cl_i (i := (a >>> ((6 : Int32) &&& 31)) &&& (63 : Int32)) (by omega)
  obtain ⟨-, -, -, -, -, h29, h30, -⟩ := h
  have sp := pw_sp a1
  have r1 := rdC29 hI (j := a.toInt.toNat % 64)
  have r2 := rdC30 hI (j := a.toInt.toNat / 64)
  have o := or_n r1.1 r1.2 r2.1 r2.2
  refine ⟨sg 29 (a.toInt.toNat % 64) ||| sg 30 (a.toInt.toNat / 64), ?_, o.2.1, o.2.2, fun t ht => ?_⟩
  · unfold fX4_pairsOf
    show gin _ 64 (gin _ 64 (some _)) = _
    rw [gin_in (vin_i (by omega) (by omega)), gin_in (vin_i (by omega) (by omega)), show (a &&& (63 : Int32)).toNatClampNeg = a.toInt.toNat % 64 by omega, show ((a >>> ((6 : Int32) &&& 31)) &&& (63 : Int32)).toNatClampNeg = a.toInt.toNat / 64 by omega]
  · rw [bt_or2 r1.1 r1.2 r2.1 r2.2 ht, h29 _ t sp.1 ht, h30 _ t sp.2 ht]
    exact U6_split
/-! the reference's fill, exactly -/
/-- the least is endless, or one of those before n has it -/
def ATT (sg : Sg) (lg : Lg) (set last : Int32) (L : Int64) (n : Nat) : Prop := L.toInt = 1000000000000000 ∨ ∃ j, j < n ∧ ¬ mc sg (Int32.ofNat j) set last = 0 ∧ L = smv sg lg set (Int32.ofNat j)
theorem ATT_s {sg : Sg} {lg : Lg} {set last : Int32} {L : Int64} {n : Nat} (h : ATT sg lg set last L n) : ATT sg lg set last L (n + 1) := by
  rcases h with z | ⟨j, z1, z2⟩
  · exact Or.inl z
  · exact Or.inr ⟨j, by omega, z2⟩
/-- a state that is laid -/
def FS2 (sg : Sg) (lg : Lg) (set last : Int32) (r : Sg × Lg) : Prop := r.1 = sg ∧ (∀ k, k ≠ 4 → k ≠ 5 → r.2 k = lg k) ∧ (∀ i, i ≠ (ax set last).toNatClampNeg → r.2 4 i = lg 4 i ∧ r.2 5 i = lg 5 i) ∧ (r.2 4 (ax set last).toNatClampNeg).toInt ≤ 1000000000000000 ∧ (∀ n, n < 12 → ¬ mc sg (Int32.ofNat n) set last = 0 → (r.2 4 (ax set last).toNatClampNeg).toInt ≤ (smv sg lg set (Int32.ofNat n)).toInt) ∧ ATT sg lg set last (r.2 4 (ax set last).toNatClampNeg) 12 ∧ (r.2 5 (ax set last).toNatClampNeg).toInt = PS sg lg set last (r.2 4 (ax set last).toNatClampNeg) 12
set_option maxHeartbeats 4000000 in
theorem k_fillState2 {sg : Sg} {lg : Lg} {set last : Int32} {B : Int} (sv : SV (sg 1)) (a0 : 0 ≤ set.toInt) (a1 : set.toInt ≤ 4095) (b0 : 0 ≤ last.toInt) (b1 : last.toInt ≤ 12) (hB : 0 ≤ B) (hB2 : 12 * B ≤ 1000000000000000) (hw : ∀ n, n < 12 → ¬ mc sg (Int32.ofNat n) set last = 0 → 0 ≤ ww lg set (Int32.ofNat n) ∧ ww lg set (Int32.ofNat n) ≤ B) : Ok (FS2 sg lg set last) (fX12_fillState set last sg lg) := by
  have k0 : (0 : Int32).toInt = 0 := by decide
  have k1 : (1 : Int32).toInt = 1 := by decide
  have kE : (1000000000000000 : Int64).toInt = 1000000000000000 := by decide
  have j0 : (0 : Int64).toInt = 0 := by decide
  have t2 := ax_i a0 a1 b0 b1
  -- a place that may come is another place
  have tne : ∀ n, n < 12 → ¬ mc sg (Int32.ofNat n) set last = 0 → (tx set (Int32.ofNat n)).toNatClampNeg ≠ (ax set last).toNatClampNeg := by
    intro n hn m
    have o := ofn_n hn
    have ts := tset_i a0 a1 (h := Int32.ofNat n) (by omega) (by omega)
    have tg := tset_gt a0 a1 (h := Int32.ofNat n) (by omega) (by omega) (mc_cb m).2
    have t1 := ax_i (set := set ||| ((1 : Int32) <<< (Int32.ofNat n &&& 31))) (last := Int32.ofNat n) ts.1 ts.2 (by omega) (by omega)
    have e1 : tx set (Int32.ofNat n) = ax (set ||| ((1 : Int32) <<< (Int32.ofNat n &&& 31))) (Int32.ofNat n) := rfl
    rw [e1]
    omega
  unfold fX12_fillState
  refine ok_lt (fun x1 ex1 => ?_)
  replace ex1 : x1 = ax set last := ex1
  subst ex1
  refine ok_gin (by omega) (by omega) ?_
  refine ok_lt (fun lg3 e3 => ?_)
  refine ok_gin (by omega) (by omega) ?_
  refine ok_lt (fun lg5 e5 => ?_)
  unfold LX12_fillState_26
  refine ok_loop (I := fun (q : Int32 × Int32 × Int32 × Int32 × Sg × Lg) => q.1 = set ∧ q.2.1 = last ∧ q.2.2.1 = ax set last ∧ q.2.2.2.2.1 = sg ∧ 0 ≤ q.2.2.2.1.toInt ∧ q.2.2.2.1.toInt ≤ 12 ∧ (∀ k, k ≠ 4 → k ≠ 5 → q.2.2.2.2.2 k = lg k) ∧ (∀ i, i ≠ (ax set last).toNatClampNeg → q.2.2.2.2.2 4 i = lg 4 i ∧ q.2.2.2.2.2 5 i = lg 5 i) ∧ (q.2.2.2.2.2 4 (ax set last).toNatClampNeg).toInt ≤ 1000000000000000 ∧ (∀ j, j < q.2.2.2.1.toInt.toNat → ¬ mc sg (Int32.ofNat j) set last = 0 → (q.2.2.2.2.2 4 (ax set last).toNatClampNeg).toInt ≤ (smv sg lg set (Int32.ofNat j)).toInt) ∧ ATT sg lg set last (q.2.2.2.2.2 4 (ax set last).toNatClampNeg) q.2.2.2.1.toInt.toNat ∧ (q.2.2.2.2.2 5 (ax set last).toNatClampNeg).toInt = PS sg lg set last (q.2.2.2.2.2 4 (ax set last).toNatClampNeg) q.2.2.2.1.toInt.toNat) (m := fun (q : Int32 × Int32 × Int32 × Int32 × Sg × Lg) => (13 - q.2.2.2.1.toInt).toNat) _ ?_ ?_ _ ?_
  · intro q hq
    have := hq.2.2.2.2.1
    show (13 - q.2.2.2.1.toInt).toNat < 10000
    omega
  · intro rec q hq hrec
    obtain ⟨p1, p2, p3, v4, sg1, l⟩ := q
    replace hq : p1 = set ∧ p2 = last ∧ p3 = ax set last ∧ sg1 = sg ∧ 0 ≤ v4.toInt ∧ v4.toInt ≤ 12 ∧ (∀ k, k ≠ 4 → k ≠ 5 → l k = lg k) ∧ (∀ i, i ≠ (ax set last).toNatClampNeg → l 4 i = lg 4 i ∧ l 5 i = lg 5 i) ∧ (l 4 (ax set last).toNatClampNeg).toInt ≤ 1000000000000000 ∧ (∀ j, j < v4.toInt.toNat → ¬ mc sg (Int32.ofNat j) set last = 0 → (l 4 (ax set last).toNatClampNeg).toInt ≤ (smv sg lg set (Int32.ofNat j)).toInt) ∧ ATT sg lg set last (l 4 (ax set last).toNatClampNeg) v4.toInt.toNat ∧ (l 5 (ax set last).toNatClampNeg).toInt = PS sg lg set last (l 4 (ax set last).toNatClampNeg) v4.toInt.toNat := hq
    obtain ⟨e1, e2, e3', e4, q0, q1, q2, q3, q4, q5, qa, q6⟩ := hq
    subst e1 e2 e3' e4
    have hv := of_i q0
    -- the next turn
    have go : ∀ l' : Lg, v4.toInt < 12 → (∀ k, k ≠ 4 → k ≠ 5 → l' k = lg k) → (∀ i, i ≠ (ax p1 p2).toNatClampNeg → l' 4 i = lg 4 i ∧ l' 5 i = lg 5 i) → (l' 4 (ax p1 p2).toNatClampNeg).toInt ≤ 1000000000000000 → (∀ j, j < v4.toInt.toNat + 1 → ¬ mc sg1 (Int32.ofNat j) p1 p2 = 0 → (l' 4 (ax p1 p2).toNatClampNeg).toInt ≤ (smv sg1 lg p1 (Int32.ofNat j)).toInt) → ATT sg1 lg p1 p2 (l' 4 (ax p1 p2).toNatClampNeg) (v4.toInt.toNat + 1) → (l' 5 (ax p1 p2).toNatClampNeg).toInt = PS sg1 lg p1 p2 (l' 4 (ax p1 p2).toNatClampNeg) (v4.toInt.toNat + 1) → Ok (FS2 sg1 lg p1 p2) (fX12_fillState_165 rec p1 p2 (ax p1 p2) v4 sg1 l') := by
      intro l' g0 g1 g2 g3 g4 ga g5
      unfold fX12_fillState_165
      refine ok_lt (fun x ex => ?_)
      replace ex : x.toInt = v4.toInt + 1 := by rw [ex]; exact add_c 1 k1 (by omega) (by omega)
      have en : x.toInt.toNat = v4.toInt.toNat + 1 := by omega
      exact hrec (p1, p2, ax p1 p2, x, sg1, l') ⟨rfl, rfl, rfl, rfl, by show 0 ≤ x.toInt; omega, by show x.toInt ≤ 12; omega, g1, g2, g3, fun j hj => g4 j (by have hj' : j < x.toInt.toNat := hj; omega), by show ATT sg1 lg p1 p2 (l' 4 (ax p1 p2).toNatClampNeg) x.toInt.toNat; rw [en]; exact ga, by show (l' 5 (ax p1 p2).toNatClampNeg).toInt = PS sg1 lg p1 p2 (l' 4 (ax p1 p2).toNatClampNeg) x.toInt.toNat; rw [en]; exact g5⟩ (show (13 - x.toInt).toNat < (13 - v4.toInt).toNat by omega)
    show Ok (FS2 sg1 lg p1 p2) (fX12_fillState_26 rec p1 p2 (ax p1 p2) v4 sg1 l)
    unfold fX12_fillState_26
    refine bnd3_of hens_is ?_
    have h12 := sv.2.1
    refine ok_ite (fun c => ?_) (fun c => ?_)
    · replace c := i_le.mp c
      -- those behind the last hen can't come
      have late : ∀ n, v4.toInt.toNat ≤ n → n < 12 → mc sg1 (Int32.ofNat n) p1 p2 = 0 := by
        intro n hn hn2
        refine Decidable.byContradiction fun z => ?_
        have z1 := (mc_cb z).1
        simp only [cb, decide_eq_true_eq] at z1
        have o := ofn_n hn2
        omega
      have ext : ∀ n, v4.toInt.toNat ≤ n → n ≤ 12 → PS sg1 lg p1 p2 (l 4 (ax p1 p2).toNatClampNeg) n = PS sg1 lg p1 p2 (l 4 (ax p1 p2).toNatClampNeg) v4.toInt.toNat := by
        intro n
        induction n with
        | zero => intro h1 h2; rw [show v4.toInt.toNat = 0 by omega]
        | succ n ih =>
          intro h1 h2
          by_cases w : v4.toInt.toNat = n + 1
          · rw [w]
          · unfold PS
            rw [if_neg (fun z => z.1 (late n (by omega) (by omega))), ih (by omega) (by omega), Int.add_zero]
            cases hx : v4.toInt.toNat with
            | zero => rfl
            | succ _ => rfl
      have pb := PS_bd (sg := sg1) (lg := lg) (set := p1) (last := p2) (L := l 4 (ax p1 p2).toNatClampNeg) hw hB 12 (by decide)
      have px := ext 12 (by omega) (by decide)
      refine ok_some ⟨rfl, q2, q3, q4, fun n hn m => ?_, ?_, ?_⟩
      · by_cases w : n < v4.toInt.toNat
        · exact q5 n w m
        · exact absurd (late n (by omega) hn) m
      · rcases qa with z | ⟨n, z1, z2, z3⟩
        · exact Or.inl z
        · exact Or.inr ⟨n, by omega, z2, z3⟩
      · show (l 5 (ax p1 p2).toNatClampNeg).toInt = PS sg1 lg p1 p2 (l 4 (ax p1 p2).toNatClampNeg) 12
        rw [q6, ← px]
    · replace c := i_nle.mp c
      refine bnd3_of (mayCome_is sv q0 (by omega)) ?_
      refine ok_ite (fun c2 => ?_) (fun c2 => ?_)
      · refine go l (by omega) q2 q3 q4 (fun j hj m => ?_) (ATT_s qa) ?_
        · by_cases w : j = v4.toInt.toNat
          · rw [w, ← hv] at m; exact absurd c2 m
          · exact q5 j (by omega) m
        · unfold PS
          rw [if_neg (fun z => z.1 (by rw [← hv]; exact c2)), Int.add_zero]
          exact q6
      · have ts := tset_i a0 a1 (h := v4) q0 (by omega)
        have t1 := ax_i (set := p1 ||| ((1 : Int32) <<< (v4 &&& 31))) (last := v4) ts.1 ts.2 q0 (by omega)
        have e1 : tx p1 v4 = ax (p1 ||| ((1 : Int32) <<< (v4 &&& 31))) v4 := rfl
        rw [← e1] at t1
        have m0 : ¬ mc sg1 (Int32.ofNat v4.toInt.toNat) p1 p2 = 0 := by rw [← hv]; exact c2
        have tn0 := tne v4.toInt.toNat (by omega) m0
        rw [← hv] at tn0
        have w0 := hw v4.toInt.toNat (by omega) m0
        rw [← hv] at w0
        have l4 := (q3 _ tn0).1
        have l5 := (q3 _ tn0).2
        have pb := fun L => PS_bd (sg := sg1) (lg := lg) (set := p1) (last := p2) (L := L) hw hB v4.toInt.toNat (by omega)
        have pbm : ((v4.toInt.toNat : Nat) : Int) * B ≤ 11 * B := Int.mul_le_mul_of_nonneg_right (by omega) hB
        -- region 163: what is added
        have add : ∀ (l' : Lg) (w : Int64), (∀ k, k ≠ 4 → k ≠ 5 → l' k = lg k) → (∀ i, i ≠ (ax p1 p2).toNatClampNeg → l' 4 i = lg 4 i ∧ l' 5 i = lg 5 i) → (l' 4 (ax p1 p2).toNatClampNeg).toInt ≤ 1000000000000000 → (∀ j, j < v4.toInt.toNat + 1 → ¬ mc sg1 (Int32.ofNat j) p1 p2 = 0 → (l' 4 (ax p1 p2).toNatClampNeg).toInt ≤ (smv sg1 lg p1 (Int32.ofNat j)).toInt) → ATT sg1 lg p1 p2 (l' 4 (ax p1 p2).toNatClampNeg) (v4.toInt.toNat + 1) → (l' 5 (ax p1 p2).toNatClampNeg).toInt = PS sg1 lg p1 p2 (l' 4 (ax p1 p2).toNatClampNeg) v4.toInt.toNat → w.toInt = (if (smv sg1 lg p1 v4).toInt < 1000000000000000 ∧ smv sg1 lg p1 v4 = l' 4 (ax p1 p2).toNatClampNeg then ww lg p1 v4 else 0) → Ok (FS2 sg1 lg p1 p2) (fX12_fillState_163 rec p1 p2 (ax p1 p2) v4 w (l' 5 (ax p1 p2).toNatClampNeg) (ax p1 p2) sg1 l') := by
          intro l' w g1 g2 g3 g4 ga g5 gw
          have pbl := pb (l' 4 (ax p1 p2).toNatClampNeg)
          have wn : 0 ≤ w.toInt ∧ w.toInt ≤ B := by
            rw [gw]; split
            · exact w0
            · omega
          have fa := add64b (a := l' 5 (ax p1 p2).toNatClampNeg) (b := w) (by omega) (by omega)
          unfold fX12_fillState_163
          refine ok_lt (fun x ex => ?_)
          refine ok_gin (by omega) (by omega) ?_
          refine ok_lt (fun l2 el2 => ?_)
          refine go l2 (by omega) (fun k h4 h5 => ?_) (fun i hi => ?_) ?_ ?_ ?_ ?_
          · rw [el2, up2L_n h5]; exact g1 k h4 h5
          · rw [el2, upl_is, if_neg (by omega), upl_is, if_neg (fun z => hi z.2)]; exact g2 i hi
          · rw [el2, upl_is, if_neg (by omega)]; exact g3
          · rw [el2, upl_is, if_neg (by omega)]; exact g4
          · rw [el2, upl_is, if_neg (by omega)]; exact ga
          · rw [el2, upl_is, if_pos ⟨rfl, rfl⟩, upl_is, if_neg (by omega), ex, fa, g5]
            show _ = PS sg1 lg p1 p2 (l' 4 (ax p1 p2).toNatClampNeg) v4.toInt.toNat + (if ¬ mc sg1 (Int32.ofNat v4.toInt.toNat) p1 p2 = 0 ∧ (smv sg1 lg p1 (Int32.ofNat v4.toInt.toNat)).toInt < 1000000000000000 ∧ smv sg1 lg p1 (Int32.ofNat v4.toInt.toNat) = l' 4 (ax p1 p2).toNatClampNeg then ww lg p1 (Int32.ofNat v4.toInt.toNat) else 0)
            rw [← hv, gw]
            by_cases z : (smv sg1 lg p1 v4).toInt < 1000000000000000 ∧ smv sg1 lg p1 v4 = l' 4 (ax p1 p2).toNatClampNeg
            · rw [if_pos z, if_pos ⟨c2, z⟩]
            · rw [if_neg z, if_neg (fun y => z y.2)]
        -- region 124
        have r124 : ∀ (l' : Lg), (∀ k, k ≠ 4 → k ≠ 5 → l' k = lg k) → (∀ i, i ≠ (ax p1 p2).toNatClampNeg → l' 4 i = lg 4 i ∧ l' 5 i = lg 5 i) → (l' 4 (ax p1 p2).toNatClampNeg).toInt ≤ 1000000000000000 → (∀ j, j < v4.toInt.toNat + 1 → ¬ mc sg1 (Int32.ofNat j) p1 p2 = 0 → (l' 4 (ax p1 p2).toNatClampNeg).toInt ≤ (smv sg1 lg p1 (Int32.ofNat j)).toInt) → ATT sg1 lg p1 p2 (l' 4 (ax p1 p2).toNatClampNeg) (v4.toInt.toNat + 1) → (l' 5 (ax p1 p2).toNatClampNeg).toInt = PS sg1 lg p1 p2 (l' 4 (ax p1 p2).toNatClampNeg) v4.toInt.toNat → Ok (FS2 sg1 lg p1 p2) (fX12_fillState_124 rec p1 p2 (ax p1 p2) v4 (tx p1 v4) (smv sg1 lg p1 v4) sg1 l') := by
          intro l' g1 g2 g3 g4 ga g5
          unfold fX12_fillState_124
          refine ok_gin (by omega) (by omega) ?_
          refine ok_ite (fun d => ?_) (fun d => ?_)
          · have d' := j_le.mp d
            unfold fX12_fillState_162
            exact add l' 0 g1 g2 g3 g4 ga g5 (by rw [if_neg (by omega), j0])
          · have d' := j_nle.mp d
            refine ok_gin (by omega) (by omega) ?_
            refine ok_ite (fun f => ?_) (fun f => ?_)
            · refine ok_gin (by omega) (by omega) ?_
              refine add l' _ g1 g2 g3 g4 ga g5 ?_
              rw [if_pos ⟨by omega, f⟩, (g2 _ tn0).2]
              rfl
            · unfold fX12_fillState_162
              exact add l' 0 g1 g2 g3 g4 ga g5 (by rw [if_neg (fun z => f z.2), j0])
        -- region 95
        have r95 : Ok (FS2 sg1 lg p1 p2) (fX12_fillState_95 rec p1 p2 (ax p1 p2) v4 (tx p1 v4) (smv sg1 lg p1 v4) sg1 l) := by
          unfold fX12_fillState_95
          refine ok_gin (by omega) (by omega) ?_
          refine ok_ite (fun d => ?_) (fun d => ?_)
          · have d' := j_le.mp d
            refine r124 l q2 q3 q4 (fun j hj m => ?_) (ATT_s qa) q6
            by_cases w : j = v4.toInt.toNat
            · rw [w, ← hv]; exact d'
            · exact q5 j (by omega) m
          · have d' := j_nle.mp d
            refine ok_gin (by omega) (by omega) ?_
            refine ok_lt (fun la ea => ?_)
            refine ok_gin (by omega) (by omega) ?_
            refine ok_lt (fun lb eb => ?_)
            have n4 : lb 4 (ax p1 p2).toNatClampNeg = smv sg1 lg p1 v4 := by rw [eb, upl_is, if_neg (by omega), ea, upl_is, if_pos ⟨rfl, rfl⟩]
            have n5 : lb 5 (ax p1 p2).toNatClampNeg = 0 := by rw [eb, upl_is, if_pos ⟨rfl, rfl⟩]
            refine r124 lb (fun k h4 h5 => ?_) (fun i hi => ?_) (by rw [n4]; omega) (fun j hj m => ?_) (by rw [n4]; exact Or.inr ⟨v4.toInt.toNat, by omega, m0, by rw [← hv]⟩) ?_
            · rw [eb, up2L_n h5, ea, up2L_n h4]; exact q2 k h4 h5
            · rw [eb, upl_is, if_neg (by omega), upl_is, if_neg (fun z => hi z.2), ea, upl_is, if_neg (fun z => hi z.2), upl_is, if_neg (by omega)]; exact q3 i hi
            · rw [n4]
              by_cases w : j = v4.toInt.toNat
              · rw [w, ← hv]; omega
              · have := q5 j (by omega) m
                omega
            · rw [n5, n4, j0, PS_0 v4.toInt.toNat (fun j hj m => by have := q5 j hj m; omega)]
        refine ok_lt (fun x11 e11 => ?_)
        replace e11 : x11 = tx p1 v4 := e11
        subst e11
        refine ok_gin (by omega) (by omega) ?_
        refine ok_ite (fun d => ?_) (fun d => ?_)
        · have d' := j_lt.mp d
          refine bnd3_of (cost_is q0 (by omega)) ?_
          refine ok_gin (by omega) (by omega) ?_
          have es : smv sg1 lg p1 v4 = csum (sg1 1) v4 p1 12 + l 4 (tx p1 v4).toNatClampNeg := by
            unfold smv
            rw [if_pos (by rw [← l4]; omega), l4]
          rw [← es]
          exact r95
        · have d' := j_nlt.mp d
          have es : smv sg1 lg p1 v4 = 1000000000000000 := by
            unfold smv
            rw [if_neg (by rw [← l4]; omega)]
          rw [← es]
          exact r95
  · refine ⟨rfl, rfl, rfl, rfl, by show 0 ≤ (0 : Int32).toInt; omega, by show (0 : Int32).toInt ≤ 12; omega, fun k h4 h5 => ?_, fun i hi => ?_, ?_, fun j hj => ?_, ?_, ?_⟩
    · show lg5 k = lg k
      rw [e5, up2L_n h5, e3, up2L_n h4]
    · show lg5 4 i = lg 4 i ∧ lg5 5 i = lg 5 i
      rw [e5, upl_is, if_neg (by omega), upl_is, if_neg (fun z => hi z.2), e3, upl_is, if_neg (fun z => hi z.2), upl_is, if_neg (by omega)]
      exact ⟨rfl, rfl⟩
    · show (lg5 4 (ax set last).toNatClampNeg).toInt ≤ 1000000000000000
      rw [e5, upl_is, if_neg (by omega), e3, upl_is, if_pos ⟨rfl, rfl⟩]
      omega
    · have hj' : j < (0 : Int32).toInt.toNat := hj
      rw [k0] at hj'
      exact absurd hj' (Nat.not_lt_zero _)
    · left
      show (lg5 4 (ax set last).toNatClampNeg).toInt = 1000000000000000
      rw [e5, upl_is, if_neg (by omega), e3, upl_is, if_pos ⟨rfl, rfl⟩]
      exact kE
    · show (lg5 5 (ax set last).toNatClampNeg).toInt = PS sg lg set last (lg5 4 (ax set last).toNatClampNeg) (0 : Int32).toInt.toNat
      rw [k0, e5, upl_is, if_pos ⟨rfl, rfl⟩]
      exact j0
/-! fill: every state that is laid -/
/-- fill writes but three fields -/
def FM0 (sg r : Sg) : Prop := (∀ k, k ≠ 0 → r k = sg k) ∧ ∀ j, j ≠ 7 → j ≠ 8 → j ≠ 9 → r 0 j = sg 0 j
theorem S6_bd' {f : Nat → Int} {x : Nat} {B : Int} (hB : 0 ≤ B) : ∀ n, (∀ j, j < n → 0 ≤ f j ∧ f j ≤ B) → 0 ≤ S6 f x n ∧ S6 f x n ≤ n * B
  | 0, _ => by
    show 0 ≤ (0 : Int) ∧ (0 : Int) ≤ ((0 : Nat) : Int) * B
    simp
  | n + 1, h => by
    have ih := S6_bd' (x := x) hB n (fun j hj => h j (by omega))
    have hn := h n (by omega)
    have e : ((n + 1 : Nat) : Int) * B = n * B + B := by rw [Int.natCast_add, Int.add_mul]; simp
    rw [e]
    unfold S6
    split <;> omega
/-- the pecks of a hen against a set, in the reference -/
def cm (S : Nat → Int32) (h x : Nat) : Int := S6 (fun j => (S (49 + 12 * h + j)).toInt) x 12
theorem csum_i {S : Nat → Int32} {h set : Int32} (sv : SV S) (h0 : 0 ≤ h.toInt) (h1 : h.toInt ≤ 11) (s0 : 0 ≤ set.toInt) : ∀ n, n ≤ 12 → (csum S h set n).toInt = S6 (fun j => (S (49 + 12 * h.toInt.toNat + j)).toInt) set.toInt.toNat n
  | 0, _ => (show (0 : Int64).toInt = 0 by decide)
  | n + 1, hn => by
    have ih := csum_i sv h0 h1 s0 n (by omega)
    have hc := cl_i h0
    have en : h.toNatClampNeg = h.toInt.toNat := by omega
    have rb : ∀ j, j < 12 → 0 ≤ (S (49 + 12 * h.toInt.toNat + j)).toInt ∧ (S (49 + 12 * h.toInt.toNat + j)).toInt ≤ 1000000 := fun j hj => sv.2.2.2 _ (by omega) (by omega)
    have b := S6_bd' (f := fun j => (S (49 + 12 * h.toInt.toNat + j)).toInt) (x := set.toInt.toNat) (B := 1000000) (by decide) n (fun j hj => rb j (by omega))
    have bn := rb n (by omega)
    have o := ofn_n (j := n) (by omega)
    have bt := bit_n (a := set) (v := Int32.ofNat n) s0 (by omega) (by omega)
    rw [o, Int.toNat_natCast] at bt
    unfold csum S6
    rw [en]
    by_cases c : set.toInt.toNat.testBit n = true
    · have e64 : ((S (49 + 12 * h.toInt.toNat + n)).toInt64).toInt = (S (49 + 12 * h.toInt.toNat + n)).toInt := Int32.toInt_toInt64 _
      rw [if_pos (bt.mpr c), if_pos c, add64b (by omega) (by omega), ih, e64]
    · have j0 : (0 : Int64).toInt = 0 := by decide
      rw [if_neg (fun z => c (bt.mp z)), if_neg c, add64b (by omega) (by omega), ih, j0]
theorem cm_bd {S : Nat → Int32} {h x : Nat} (sv : SV S) (hh : h < 12) : 0 ≤ cm S h x ∧ cm S h x ≤ 12000000 := by
  have := S6_bd' (f := fun j => (S (49 + 12 * h + j)).toInt) (x := x) (B := 1000000) (by decide) 12 (fun j hj => sv.2.2.2 _ (by omega) (by omega))
  unfold cm
  omega
def lv (lg : Lg) (set last : Int32) : Int := (lg 4 (ax set last).toNatClampNeg).toInt
theorem smv_is {sg : Sg} {lg : Lg} {set h : Int32} (sv : SV (sg 1)) (a0 : 0 ≤ set.toInt) (h0 : 0 ≤ h.toInt) (h1 : h.toInt ≤ 11) (l0 : 0 ≤ lv lg (set ||| ((1 : Int32) <<< (h &&& 31))) h) : (smv sg lg set h).toInt = if lv lg (set ||| ((1 : Int32) <<< (h &&& 31))) h < 1000000000000000 then cm (sg 1) h.toInt.toNat set.toInt.toNat + lv lg (set ||| ((1 : Int32) <<< (h &&& 31))) h else 1000000000000000 := by
  have e1 : tx set h = ax (set ||| ((1 : Int32) <<< (h &&& 31))) h := rfl
  have c := csum_i (S := sg 1) (h := h) (set := set) sv h0 h1 a0 12 (by decide)
  have b := cm_bd (h := h.toInt.toNat) (x := set.toInt.toNat) sv (by omega)
  unfold smv lv at *
  rw [e1]
  split
  · unfold cm at b ⊢
    rw [add64b (by omega) (by omega), c]
  · decide
theorem smv_bd {sg : Sg} {lg : Lg} {set h : Int32} {K : Nat} (sv : SV (sg 1)) (a0 : 0 ≤ set.toInt) (h0 : 0 ≤ h.toInt) (h1 : h.toInt ≤ 11) (l0 : 0 ≤ lv lg (set ||| ((1 : Int32) <<< (h &&& 31))) h) (l1 : lv lg (set ||| ((1 : Int32) <<< (h &&& 31))) h = 1000000000000000 ∨ lv lg (set ||| ((1 : Int32) <<< (h &&& 31))) h ≤ 12000000 * (K : Int)) : 0 ≤ (smv sg lg set h).toInt ∧ ((smv sg lg set h).toInt = 1000000000000000 ∨ (smv sg lg set h).toInt ≤ 12000000 * (K : Int) + 12000000) := by
  have b := cm_bd (h := h.toInt.toNat) (x := set.toInt.toNat) sv (by omega)
  rw [smv_is sv a0 h0 h1 l0]
  split
  · refine ⟨by omega, ?_⟩
    rcases l1 with z | z
    · omega
    · right; omega
  · exact ⟨by decide, Or.inl rfl⟩
/-- the least is the least, one has it, and the ways add up -/
def BX (sg : Sg) (lg : Lg) (set last : Int32) : Prop := (∀ n, n < 12 → ¬ mc sg (Int32.ofNat n) set last = 0 → (lg 4 (ax set last).toNatClampNeg).toInt ≤ (smv sg lg set (Int32.ofNat n)).toInt) ∧ ATT sg lg set last (lg 4 (ax set last).toNatClampNeg) 12 ∧ wv lg set last = PS sg lg set last (lg 4 (ax set last).toNatClampNeg) 12
theorem PS_cg {sg : Sg} {lg lg' : Lg} {set last : Int32} {L : Int64} (ht : ∀ n, n < 12 → ¬ mc sg (Int32.ofNat n) set last = 0 → lg' 4 (tx set (Int32.ofNat n)).toNatClampNeg = lg 4 (tx set (Int32.ofNat n)).toNatClampNeg ∧ lg' 5 (tx set (Int32.ofNat n)).toNatClampNeg = lg 5 (tx set (Int32.ofNat n)).toNatClampNeg) : ∀ n, n ≤ 12 → PS sg lg' set last L n = PS sg lg set last L n
  | 0, _ => rfl
  | n + 1, hn => by
    have ih := PS_cg (L := L) ht n (by omega)
    unfold PS
    rw [ih]
    by_cases m : mc sg (Int32.ofNat n) set last = 0
    · rw [if_neg (fun z => z.1 m), if_neg (fun z => z.1 m)]
    · have t := ht n (by omega) m
      have e : smv sg lg' set (Int32.ofNat n) = smv sg lg set (Int32.ofNat n) := by unfold smv; rw [t.1]
      have e2 : ww lg' set (Int32.ofNat n) = ww lg set (Int32.ofNat n) := by unfold ww; rw [t.2]
      rw [e, e2]
theorem BX_of {sg : Sg} {lg lg' : Lg} {set last : Int32} (ht : ∀ n, n < 12 → ¬ mc sg (Int32.ofNat n) set last = 0 → lg' 4 (tx set (Int32.ofNat n)).toNatClampNeg = lg 4 (tx set (Int32.ofNat n)).toNatClampNeg ∧ lg' 5 (tx set (Int32.ofNat n)).toNatClampNeg = lg 5 (tx set (Int32.ofNat n)).toNatClampNeg) (h1 : ∀ n, n < 12 → ¬ mc sg (Int32.ofNat n) set last = 0 → (lg' 4 (ax set last).toNatClampNeg).toInt ≤ (smv sg lg set (Int32.ofNat n)).toInt) (h2 : ATT sg lg set last (lg' 4 (ax set last).toNatClampNeg) 12) (h3 : wv lg' set last = PS sg lg set last (lg' 4 (ax set last).toNatClampNeg) 12) : BX sg lg' set last := by
  have e : ∀ n, n < 12 → ¬ mc sg (Int32.ofNat n) set last = 0 → smv sg lg' set (Int32.ofNat n) = smv sg lg set (Int32.ofNat n) := fun n hn m => by unfold smv; rw [(ht n hn m).1]
  refine ⟨fun n hn m => by rw [e n hn m]; exact h1 n hn m, ?_, by rw [PS_cg ht 12 (by decide)]; exact h3⟩
  rcases h2 with z | ⟨n, z1, z2, z3⟩
  · exact Or.inl z
  · exact Or.inr ⟨n, z1, z2, by rw [e n z1 z2]; exact z3⟩
def DPx (sg : Sg) (lg : Lg) (A set last : Int32) : Prop := 0 ≤ wv lg set last ∧ wv lg set last ≤ ((12 ^ (kz set + 1) : Nat) : Int) ∧ 0 ≤ lv lg set last ∧ (lv lg set last = 1000000000000000 ∨ lv lg set last ≤ 12000000 * (kz set : Int)) ∧ (set = A → lv lg set last = 0 ∧ wv lg set last = 1) ∧ (¬ set = A → BX sg lg set last)
theorem DPx_cg {sg : Sg} {lg lg' : Lg} {A set0 last0 set last : Int32} (s0 : 0 ≤ set0.toInt) (s1 : set0.toInt ≤ 4095) (l0 : 0 ≤ last0.toInt) (l1 : last0.toInt ≤ 12) (hv : vld A set last) (hge : set0.toInt ≤ set.toInt) (hne : ¬ (set.toInt = set0.toInt ∧ last.toInt = last0.toInt)) (hl : ∀ i, i ≠ (ax set0 last0).toNatClampNeg → lg' 4 i = lg 4 i ∧ lg' 5 i = lg 5 i) (h : DPx sg lg A set last) : DPx sg lg' A set last := by
  obtain ⟨v0, v1, v2, v3⟩ := hv
  have b : 0 ≤ last.toInt ∧ last.toInt ≤ 12 := by omega
  have x0 := ax_i s0 s1 l0 l1
  have x1 := ax_i v0 v1 b.1 b.2
  have n1 : (ax set last).toNatClampNeg ≠ (ax set0 last0).toNatClampNeg := by omega
  have a := hl _ n1
  have w : wv lg' set last = wv lg set last := by
    unfold wv
    rw [a.2]
  have w2 : lv lg' set last = lv lg set last := by
    unfold lv
    rw [a.1]
  obtain ⟨h1, h2, h3, h4, h5, h6⟩ := h
  unfold DPx
  rw [w, w2]
  refine ⟨h1, h2, h3, h4, h5, fun z => ?_⟩
  obtain ⟨b1, b2, b3⟩ := h6 z
  refine BX_of (lg := lg) (fun n hn m => ?_) (by rw [a.1]; exact b1) (by rw [a.1]; exact b2) (by rw [a.1, w]; exact b3)
  have o := ofn_n hn
  have ts := tset_i v0 v1 (h := Int32.ofNat n) (by omega) (by omega)
  have tg := tset_gt v0 v1 (h := Int32.ofNat n) (by omega) (by omega) (mc_cb m).2
  have t1 := ax_i (set := set ||| ((1 : Int32) <<< (Int32.ofNat n &&& 31))) (last := Int32.ofNat n) ts.1 ts.2 (by omega) (by omega)
  have e1 : tx set (Int32.ofNat n) = ax (set ||| ((1 : Int32) <<< (Int32.ofNat n &&& 31))) (Int32.ofNat n) := rfl
  rw [← e1] at t1
  exact hl _ (by omega)
theorem and1_s {v : Int32} (h0 : 0 ≤ v.toInt) (h1 : v.toInt ≤ 1) : v &&& 1 = v := by
  rcases (show v.toInt = 0 ∨ v.toInt = 1 by omega) with h | h
  · rw [show v = 0 from Int32.toInt_inj.mp (by rw [h]; decide)]; decide
  · rw [show v = 1 from Int32.toInt_inj.mp (by rw [h]; decide)]; decide
set_option maxHeartbeats 4000000 in
theorem xL_fill_43 {sg : Sg} {l0 : Lg} {A v5 : Int32} {P : Sg × Lg → Prop} {r25 : (Int32 × Int32 × Sg × Lg) → Option (Sg × Lg)} (sv : SV (sg 1)) (hA : A = ctg (sg 1) (sg 1 0).toInt.toNat) (p0 : 0 ≤ v5.toInt) (p1 : v5.toInt ≤ 4095) (ps : v5 &&& A = v5) (hl : ∀ t l, vld A t l → v5.toInt < t.toInt → DPx sg l0 A t l)
    (hr : ∀ (x : Int32) (l : Lg), x.toInt = v5.toInt - 1 → (∀ t u, vld A t u → v5.toInt ≤ t.toInt → DPx sg l A t u) → Ok P (r25 (A, x, sg, l))) : Ok P (LX12_fill_43 r25 (A, v5, (0 : Int32), sg, l0)) := by
  have k0 : (0 : Int32).toInt = 0 := by decide
  have k1 : (1 : Int32).toInt = 1 := by decide
  have k12 : (12 : Int32).toInt = 12 := by decide
  have j1 : (1 : Int64).toInt = 1 := by decide
  have j0 : (0 : Int64).toInt = 0 := by decide
  unfold LX12_fill_43
  refine ok_loop (I := fun (q : Int32 × Int32 × Int32 × Sg × Lg) => q.1 = A ∧ q.2.1 = v5 ∧ q.2.2.2.1 = sg ∧ 0 ≤ q.2.2.1.toInt ∧ q.2.2.1.toInt ≤ 13 ∧ ∀ t u, vld A t u → (v5.toInt < t.toInt ∨ (t.toInt = v5.toInt ∧ u.toInt < q.2.2.1.toInt)) → DPx sg q.2.2.2.2 A t u) (m := fun (q : Int32 × Int32 × Int32 × Sg × Lg) => (14 - q.2.2.1.toInt).toNat) _ ?_ ?_ _ ?_
  · intro q hq
    have := hq.2.2.2.1
    show (14 - q.2.2.1.toInt).toNat < 10000
    omega
  · intro rec q hq hrec
    obtain ⟨a4, a5, v6, sg1, l⟩ := q
    replace hq : a4 = A ∧ a5 = v5 ∧ sg1 = sg ∧ 0 ≤ v6.toInt ∧ v6.toInt ≤ 13 ∧ ∀ t u, vld A t u → (v5.toInt < t.toInt ∨ (t.toInt = v5.toInt ∧ u.toInt < v6.toInt)) → DPx sg l A t u := hq
    obtain ⟨e1, e2, e3, q0, q1, q2⟩ := hq
    subst e1 e2 e3
    show Ok P (fX12_fill_43 r25 rec a4 a5 v6 sg1 l)
    unfold fX12_fill_43
    have go : ∀ l' : Lg, v6.toInt ≤ 12 → (∀ t u, vld a4 t u → (a5.toInt < t.toInt ∨ (t.toInt = a5.toInt ∧ u.toInt < v6.toInt + 1)) → DPx sg1 l' a4 t u) → Ok P (fX12_fill_144 r25 rec a4 a5 v6 sg1 l') := by
      intro l' g0 g1
      unfold fX12_fill_144
      refine ok_lt (fun x ex => ?_)
      replace ex : x.toInt = v6.toInt + 1 := by rw [ex]; exact add_c 1 k1 (by omega) (by omega)
      exact hrec (a4, a5, x, sg1, l') ⟨rfl, rfl, rfl, by show 0 ≤ x.toInt; omega, by show x.toInt ≤ 13; omega, fun t u hv hc => g1 t u hv (by have hc' : a5.toInt < t.toInt ∨ (t.toInt = a5.toInt ∧ u.toInt < x.toInt) := hc; omega)⟩ (show (14 - x.toInt).toNat < (14 - v6.toInt).toNat by omega)
    have no : v6.toInt ≤ 12 → ¬ vld a4 a5 v6 → Ok P (fX12_fill_86 r25 rec a4 a5 v6 (0 : Int32) sg1 l) := by
      intro g0 gn
      unfold fX12_fill_86
      rw [ite0]
      unfold fX12_fill_131
      rw [ite0]
      refine go l g0 (fun t u hv hc => q2 t u hv ?_)
      by_cases z : t.toInt = a5.toInt ∧ u.toInt = v6.toInt
      · have zt : t = a5 := Int32.toInt_inj.mp z.1
        have zu : u = v6 := Int32.toInt_inj.mp z.2
        rw [zt, zu] at hv
        exact absurd hv gn
      · omega
    have yes : v6.toInt ≤ 12 → vld a4 a5 v6 → Ok P (fX12_fill_86 r25 rec a4 a5 v6 (1 : Int32) sg1 l) := by
      intro g0 gv
      have xa := ax_i p0 p1 q0 g0
      unfold fX12_fill_86
      rw [ite1]
      refine ok_ite (fun c => ?_) (fun c => ?_)
      · show Ok P (gin (ax a5 v6) 53248 (lt (up2L l 4 (ax a5 v6).toNatClampNeg (0 : Int64)) (fun lg4 => gin (ax a5 v6) 53248 (lt (up2L lg4 5 (ax a5 v6).toNatClampNeg (1 : Int64)) (fun lg6 => fX12_fill_144 r25 rec a4 a5 v6 sg1 lg6)))))
        refine ok_gin (by omega) (by omega) ?_
        refine ok_lt (fun la ea => ?_)
        refine ok_gin (by omega) (by omega) ?_
        refine ok_lt (fun lb eb => ?_)
        have hag : ∀ i, i ≠ (ax a5 v6).toNatClampNeg → lb 4 i = l 4 i ∧ lb 5 i = l 5 i := fun i hi => by
          rw [eb, upl_is, if_neg (by omega), upl_is, if_neg (fun z => hi z.2), ea, upl_is, if_neg (fun z => hi z.2), upl_is, if_neg (by omega)]
          exact ⟨rfl, rfl⟩
        refine go lb g0 (fun t u hv hc => ?_)
        by_cases z : t.toInt = a5.toInt ∧ u.toInt = v6.toInt
        · have zt : t = a5 := Int32.toInt_inj.mp z.1
          have zu : u = v6 := Int32.toInt_inj.mp z.2
          subst zt zu
          have w : wv lb t u = 1 := by
            unfold wv
            rw [eb, upl_is, if_pos ⟨rfl, rfl⟩]
            exact j1
          have pp : 0 < 12 ^ (kz t + 1) := Nat.pow_pos (by decide)
          have lv0 : lv lb t u = 0 := by
            unfold lv
            rw [eb, upl_is, if_neg (by omega), ea, upl_is, if_pos ⟨rfl, rfl⟩]
            exact j0
          exact ⟨by omega, by omega, by omega, Or.inr (by omega), fun _ => ⟨lv0, w⟩, fun z => absurd c z⟩
        · exact DPx_cg p0 p1 q0 g0 hv (by omega) z hag (q2 t u hv (by omega))
      · unfold fX12_fill_131
        rw [ite1]
        have hw : ∀ n, n < 12 → ¬ mc sg1 (Int32.ofNat n) a5 v6 = 0 → 0 ≤ ww l a5 (Int32.ofNat n) ∧ ww l a5 (Int32.ofNat n) ≤ ((12 ^ kz a5 : Nat) : Int) := by
          intro n hn m
          have vn := vld_next sv hA p0 p1 ps hn m
          have d := q2 _ _ vn.1 (Or.inl vn.2.1)
          have pm : 12 ^ (kz (a5 ||| ((1 : Int32) <<< (Int32.ofNat n &&& 31))) + 1) ≤ 12 ^ kz a5 := Nat.pow_le_pow_right (by decide) (by have := vn.2.2; omega)
          have d1 := d.1
          have d2 := d.2.1
          have ew : ww l a5 (Int32.ofNat n) = wv l (a5 ||| ((1 : Int32) <<< (Int32.ofNat n &&& 31))) (Int32.ofNat n) := rfl
          rw [ew]
          omega
        have kz12 := kz_le a5
        have pw12 : 12 ^ kz a5 ≤ 12 ^ 12 := Nat.pow_le_pow_right (by decide) kz12
        have pc : (12 ^ 12 : Nat) = 8916100448256 := by decide
        have pz : 0 < 12 ^ kz a5 := Nat.pow_pos (by decide)
        refine ok_bnd2 (k_fillState2 (B := ((12 ^ kz a5 : Nat) : Int)) sv p0 p1 q0 g0 (by omega) (by omega) hw) (fun s' l' hf => ?_)
        obtain ⟨f1, f2, f3, f4, f5, f6, f7⟩ := hf
        replace f1 : s' = sg1 := f1
        replace f3 : ∀ i, i ≠ (ax a5 v6).toNatClampNeg → l' 4 i = l 4 i ∧ l' 5 i = l 5 i := f3
        replace f4 : lv l' a5 v6 ≤ 1000000000000000 := f4
        replace f5 : ∀ n, n < 12 → ¬ mc sg1 (Int32.ofNat n) a5 v6 = 0 → (l' 4 (ax a5 v6).toNatClampNeg).toInt ≤ (smv sg1 l a5 (Int32.ofNat n)).toInt := f5
        replace f6 : ATT sg1 l a5 v6 (l' 4 (ax a5 v6).toNatClampNeg) 12 := f6
        replace f7 : wv l' a5 v6 = PS sg1 l a5 v6 (l' 4 (ax a5 v6).toNatClampNeg) 12 := f7
        subst f1
        have tne : ∀ n, n < 12 → ¬ mc s' (Int32.ofNat n) a5 v6 = 0 → (tx a5 (Int32.ofNat n)).toNatClampNeg ≠ (ax a5 v6).toNatClampNeg := by
          intro n hn m
          have o := ofn_n hn
          have vn := vld_next sv hA p0 p1 ps hn m
          have t1 := ax_i (set := a5 ||| ((1 : Int32) <<< (Int32.ofNat n &&& 31))) (last := Int32.ofNat n) vn.1.1 vn.1.2.1 (by omega) (by omega)
          have e1 : tx a5 (Int32.ofNat n) = ax (a5 ||| ((1 : Int32) <<< (Int32.ofNat n &&& 31))) (Int32.ofNat n) := rfl
          rw [e1]
          have := vn.2.1
          omega
        have bx : BX s' l' a5 v6 := BX_of (lg := l) (fun n hn m => f3 _ (tne n hn m)) f5 f6 f7
        have pb := PS_bd (sg := s') (lg := l) (set := a5) (last := v6) (L := l' 4 (ax a5 v6).toNatClampNeg) hw (by omega) 12 (by decide)
        have lb : 0 ≤ lv l' a5 v6 ∧ (lv l' a5 v6 = 1000000000000000 ∨ lv l' a5 v6 ≤ 12000000 * (kz a5 : Int)) := by
          rcases f6 with z | ⟨n, z1, z2, z3⟩
          · have z' : lv l' a5 v6 = 1000000000000000 := z
            exact ⟨by omega, Or.inl z'⟩
          · have vn := vld_next sv hA p0 p1 ps z1 z2
            have d := q2 _ _ vn.1 (Or.inl vn.2.1)
            have kl := vn.2.2
            have o := ofn_n z1
            have sb := smv_bd (sg := s') (lg := l) (set := a5) (h := Int32.ofNat n) sv p0 (by omega) (by omega) d.2.2.1 d.2.2.2.1
            have e : lv l' a5 v6 = (smv s' l a5 (Int32.ofNat n)).toInt := by unfold lv; rw [z3]
            rw [e]
            refine ⟨sb.1, ?_⟩
            rcases sb.2 with y | y
            · exact Or.inl y
            · right; omega
        refine go l' g0 (fun t u hv hc => ?_)
        by_cases z : t.toInt = a5.toInt ∧ u.toInt = v6.toInt
        · have zt : t = a5 := Int32.toInt_inj.mp z.1
          have zu : u = v6 := Int32.toInt_inj.mp z.2
          subst zt zu
          have pe : 12 ^ (kz t + 1) = 12 * 12 ^ kz t := by rw [Nat.pow_succ]; omega
          exact ⟨by omega, by rw [pe]; omega, lb.1, lb.2, fun z => absurd z c, fun _ => bx⟩
        · exact DPx_cg p0 p1 q0 g0 hv (by omega) z f3 (q2 t u hv (by omega))
    refine ok_ite (fun c => ?_) (fun c => ?_)
    · replace c := i_lt.mp c
      unfold fX12_fill_150
      refine ok_lt (fun x ex => ?_)
      replace ex : x.toInt = a5.toInt + (-1) := by rw [ex]; exact add_c (-1) (by decide) (by omega) (by omega)
      refine hr x l (by omega) (fun t u hv hc => q2 t u hv ?_)
      have b := hv.2.2.2
      omega
    · replace c := i_nlt.mp c
      refine ok_ite (fun d => ?_) (fun d => ?_)
      · replace d := i_eq.mp d
        refine ok_ite (fun f => ?_) (fun f => ?_)
        · replace f := i_eq.mp f
          exact yes (by omega) ⟨p0, p1, ps, Or.inl ⟨by omega, by omega⟩⟩
        · replace f := i_ne.mp f
          refine no (by omega) (fun hv => ?_)
          have b := hv.2.2.2
          omega
      · replace d := i_ne.mp d
        refine ok_ite (fun f => ?_) (fun f => ?_)
        · exact yes (by omega) ⟨p0, p1, ps, Or.inr ⟨q0, by omega, f⟩⟩
        · refine no (by omega) (fun hv => ?_)
          rcases hv.2.2.2 with b | b
          · omega
          · exact f b.2.2
  · exact ⟨rfl, rfl, rfl, by show 0 ≤ (0 : Int32).toInt; omega, by show (0 : Int32).toInt ≤ 13; omega, fun t u hv hc => hl t u hv (by have hc' : v5.toInt < t.toInt ∨ (t.toInt = v5.toInt ∧ u.toInt < (0 : Int32).toInt) := hc; have b := hv.2.2.2; omega)⟩
set_option maxHeartbeats 4000000 in
theorem x_fill {v1 v2 v3 : Int32} {sg : Sg} {lg : Lg} (sv : SV (sg 1)) (b0 : 0 ≤ v1.toInt) (b1 : v1.toInt ≤ 1) : Ok (fun r => ∃ A, A = ctg (sg 1) (sg 1 0).toInt.toNat ∧ r.1 1 = sg 1 ∧ (r.1 0 7 = v1 ∧ r.1 0 8 = v2 ∧ r.1 0 9 = v3 ∧ FM0 sg r.1) ∧ ∀ t u, vld A t u → DPx r.1 r.2 A t u) (fX12_fill v1 v2 v3 sg lg) := by
  have k1 : (1 : Int32).toInt = 1 := by decide
  have k0 : (0 : Int32).toInt = 0 := by decide
  have s0 := sv.1
  have s12 := sv.2.1
  unfold fX12_fill
  refine ok_gz b0 b1 ?_
  refine ok_lt (fun sg2 e2 => ?_)
  refine ok_lt (fun sg3 e3 => ?_)
  refine ok_lt (fun sg4 e4 => ?_)
  have f1 : sg4 1 = sg 1 := by rw [e4, up2_n (by decide), e3, up2_n (by decide), e2, up2_n (by decide)]
  have f789 : sg4 0 7 = v1 ∧ sg4 0 8 = v2 ∧ sg4 0 9 = v3 ∧ FM0 sg sg4 := by
    refine ⟨?_, ?_, ?_, fun k hk => by rw [e4, up2_n hk, e3, up2_n hk, e2, up2_n hk], fun j a b c => by rw [e4, up2_o (Or.inr c), e3, up2_o (Or.inr b), e2, up2_o (Or.inr a)]⟩
    · rw [e4, up2_o (by omega), e3, up2_o (by omega), e2, up2_e]
    · rw [e4, up2_o (by omega), e3, up2_e]
    · rw [e4, up2_e]
  have sv4 : SV (sg4 1) := by rw [f1]; exact sv
  refine bnd3_of (counting_is sv4) ?_
  have cr := ctg_r (sg4 1) (sg4 1 0).toInt.toNat (by rw [f1]; omega)
  obtain ⟨A, hA⟩ : ∃ A, A = ctg (sg4 1) (sg4 1 0).toInt.toNat := ⟨_, rfl⟩
  rw [← hA] at cr ⊢
  unfold LX12_fill_25
  refine ok_loop (I := fun (q : Int32 × Int32 × Sg × Lg) => q.1 = A ∧ q.2.2.1 = sg4 ∧ -1 ≤ q.2.1.toInt ∧ q.2.1.toInt ≤ A.toInt ∧ ∀ t u, vld A t u → q.2.1.toInt < t.toInt → DPx sg4 q.2.2.2 A t u) (m := fun (q : Int32 × Int32 × Sg × Lg) => (q.2.1.toInt + 1).toNat) _ ?_ ?_ _ ?_
  · intro q hq
    have := hq.2.2.2.1
    show (q.2.1.toInt + 1).toNat < 10000
    omega
  · intro rec q hq hrec
    obtain ⟨a4, v5, sg1, l⟩ := q
    replace hq : a4 = A ∧ sg1 = sg4 ∧ -1 ≤ v5.toInt ∧ v5.toInt ≤ A.toInt ∧ ∀ t u, vld A t u → v5.toInt < t.toInt → DPx sg4 l A t u := hq
    obtain ⟨ea, eb, q0, q1, q2⟩ := hq
    subst ea eb
    show Ok _ (fX12_fill_25 rec a4 v5 sg1 l)
    unfold fX12_fill_25
    refine ok_ite (fun c => ?_) (fun c => ?_)
    · replace c := i_lt.mp c
      exact ok_some ⟨a4, by rw [hA, f1], f1, f789, fun t u hv => q2 t u hv (by have := hv.1; omega)⟩
    · replace c := i_nlt.mp c
      have on : ∀ (x : Int32) (l' : Lg), x.toInt = v5.toInt - 1 → (∀ t u, vld a4 t u → v5.toInt ≤ t.toInt → DPx sg1 l' a4 t u) → Ok (fun r => ∃ A, A = ctg (sg 1) (sg 1 0).toInt.toNat ∧ r.1 1 = sg 1 ∧ (r.1 0 7 = v1 ∧ r.1 0 8 = v2 ∧ r.1 0 9 = v3 ∧ FM0 sg r.1) ∧ ∀ t u, vld A t u → DPx r.1 r.2 A t u) (rec (a4, x, sg1, l')) := by
        intro x l' hx hd
        exact hrec (a4, x, sg1, l') ⟨rfl, rfl, by show -1 ≤ x.toInt; omega, by show x.toInt ≤ a4.toInt; omega, fun t u hv hc => hd t u hv (by have hc' : x.toInt < t.toInt := hc; omega)⟩ (show (x.toInt + 1).toNat < (v5.toInt + 1).toNat by omega)
      refine ok_ite (fun d => ?_) (fun d => ?_)
      · exact xL_fill_43 sv4 hA (by omega) (by omega) d q2 on
      · unfold fX12_fill_150
        refine ok_lt (fun x ex => ?_)
        replace ex : x.toInt = v5.toInt + (-1) := by rw [ex]; exact add_c (-1) (by decide) (by omega) (by omega)
        refine on x l (by omega) (fun t u hv hc => q2 t u hv ?_)
        by_cases z : t.toInt = v5.toInt
        · have zt : t = v5 := Int32.toInt_inj.mp z
          rw [zt] at hv
          exact absurd hv.2.2.1 d
        · omega
  · exact ⟨rfl, rfl, by show -1 ≤ A.toInt; omega, by show A.toInt ≤ A.toInt; omega, fun t u hv hc => by
      have hc' : A.toInt < t.toInt := hc
      have al := and_r (a := t) (b := A) cr.1
      rw [hv.2.2.1] at al
      omega⟩
/-! bits of sets: what is left, shifted along -/
theorem tb_cpl {y v : Int32} (y0 : 0 ≤ y.toInt) (v0 : 0 ≤ v.toInt) (j : Nat) : (y &&& (v ^^^ (-1 : Int32))).toInt.toNat.testBit j = (y.toInt.toNat.testBit j && !v.toInt.toNat.testBit j) := by
  have g := and_l (a := y) (b := v ^^^ (-1 : Int32)) y0
  have n1 := nn_i y0
  have n2 := nn_i v0
  have n3 := nn_i g.1
  rw [show (y &&& (v ^^^ (-1 : Int32))).toInt.toNat = (y &&& (v ^^^ (-1 : Int32))).toBitVec.toNat by omega, show y.toInt.toNat = y.toBitVec.toNat by omega, show v.toInt.toNat = v.toBitVec.toNat by omega]
  rw [Int32.toBitVec_and, Int32.toBitVec_xor, BitVec.testBit_toNat, BitVec.testBit_toNat, BitVec.testBit_toNat, BitVec.getLsbD_and, BitVec.getLsbD_xor]
  by_cases h : j < 32
  · have e : (-1 : Int32).toBitVec = BitVec.allOnes 32 := by decide
    rw [e, BitVec.getLsbD_allOnes, decide_eq_true h, Bool.xor_true]
  · rw [BitVec.getLsbD_of_ge _ _ (by omega)]
    rfl
theorem all_is {sg : Sg} (hI : IC0 sg) : ∃ x, fX8_all sg = some (x, sg) ∧ x.toInt = ((2 ^ (sg 3 2).toInt.toNat : Nat) : Int) - 1 ∧ x.toInt.toNat = 2 ^ (sg 3 2).toInt.toNat - 1 := by
  have hn := rdC3_2 hI
  have s := shl_is (v := sg 3 2) hn.1 (by omega)
  have p : 0 < 2 ^ (sg 3 2).toInt.toNat := Nat.pow_pos (by decide)
  have q : 2 ^ (sg 3 2).toInt.toNat ≤ 2 ^ 12 := Nat.pow_le_pow_right (by decide) (by omega)
  have e12 : (2 : Nat) ^ 12 = 4096 := by decide
  have f := sub_c (a := (1 : Int32) <<< (sg 3 2 &&& 31)) (b := (1 : Int32)) 1 (by decide) (by omega) (by omega)
  exact ⟨_, rfl, by omega, by omega⟩
theorem tb_all {n j : Nat} : (2 ^ n - 1).testBit j = decide (j < n) := Nat.testBit_two_pow_sub_one n j
theorem lt_of_tb {x n : Nat} (h : ∀ j, x.testBit j = true → j < n) : x < 2 ^ n := by
  refine Nat.lt_pow_two_of_testBit x (fun j hj => ?_)
  cases hb : x.testBit j
  · rfl
  · have := h j hb
    omega
theorem tb_lt {x n j : Nat} (hx : x < 2 ^ n) (h : x.testBit j = true) : j < n := by
  refine Decidable.byContradiction fun z => ?_
  rw [tb_hi hx (by omega)] at h
  cases h
theorem sh_bit {v : Int32} {O s : Nat} (h : v.toInt = ((O / 2 ^ s : Nat) : Int)) : (v &&& (1 : Int32)) = (1 : Int32) ↔ O.testBit s = true := by
  rw [Nat.testBit_eq_decide_div_mod_eq, decide_eq_true_eq]
  obtain ⟨D, hD⟩ : ∃ D, D = O / 2 ^ s := ⟨_, rfl⟩
  rw [← hD] at h ⊢
  have n := and_n (a := v) (b := (1 : Int32)) (by omega) (by decide)
  have e1 : (1 : Int32).toInt.toNat = 1 := by decide
  rw [e1, Nat.and_one_is_mod] at n
  have k1 : (1 : Int32).toInt = 1 := by decide
  rw [i_eq, k1]
  omega
theorem sh_next {v x : Int32} {O s : Nat} (h : v.toInt = ((O / 2 ^ s : Nat) : Int)) (e : x = v >>> ((1 : Int32) &&& 31)) : x.toInt = ((O / 2 ^ (s + 1) : Nat) : Int) := by
  rw [e, shr1, h, Nat.pow_succ, ← Nat.div_div_eq_div_mul]
  rfl
theorem sh_zero {v : Int32} {O s : Nat} (h : v.toInt = ((O / 2 ^ s : Nat) : Int)) (z : v = 0) : ∀ j, s ≤ j → O.testBit j = false := by
  intro j hj
  rw [z] at h
  have e : O / 2 ^ s = 0 := by
    have : (0 : Int32).toInt = 0 := by decide
    omega
  have p : 0 < 2 ^ s := Nat.pow_pos (by decide)
  have lt : O < 2 ^ s := by
    rcases Nat.div_eq_zero_iff.mp e with z | z
    · omega
    · exact z
  exact tb_hi lt hj
theorem tb_or {x s j : Nat} : (x ||| 2 ^ s).testBit j = (x.testBit j || decide (s = j)) := by rw [Nat.testBit_or, Nat.testBit_two_pow]
theorem or_lt {x s n : Nat} (hx : x < 2 ^ n) (hs : s < n) : x ||| 2 ^ s < 2 ^ n := Nat.or_lt_two_pow hx (Nat.pow_lt_pow_right (by decide) hs)
theorem or_gt {x s : Nat} (h : x.testBit s = false) : x < x ||| 2 ^ s := by
  have le : x ≤ x ||| 2 ^ s := Nat.left_le_or
  have ne : x ≠ x ||| 2 ^ s := fun z => by
    have := tb_or (x := x) (s := s) (j := s)
    rw [← z, h, decide_eq_true rfl] at this
    simp at this
  omega
/-- how many are left -/
def zc (x n : Nat) : Nat := cn (fun j => !x.testBit j) n
theorem zc_lt {x s n : Nat} (hs : s < n) (h : x.testBit s = false) : zc (x ||| 2 ^ s) n < zc x n := by
  refine cn_lt (j0 := s) n (fun j _ hp => ?_) hs (by simp [h]) (by simp [tb_or])
  simp only [tb_or, Bool.not_eq_true', Bool.or_eq_false_iff] at hp ⊢
  exact hp.1
theorem zc_le (x n : Nat) : zc x n ≤ n := cn_max _ n
/-- a set of n that isn't all lacks one -/
theorem ex_left {x n : Nat} (hx : x < 2 ^ n) (hne : x ≠ 2 ^ n - 1) : ∃ j, j < n ∧ x.testBit j = false := by
  refine Decidable.byContradiction fun z => ?_
  refine hne (Nat.eq_of_testBit_eq fun j => ?_)
  rw [tb_all]
  by_cases c : j < n
  · rw [decide_eq_true c]
    cases hb : x.testBit j
    · exact absurd ⟨j, c, hb⟩ z
    · rfl
  · rw [decide_eq_false c]; exact tb_hi hx (by omega)
/-! loosen: the least weight of those that are left, with no asking -/
theorem ic_s65 {C r : Sg} (h : IC0 C) (e : ∀ k, k ≠ 65 → r k = C k) : IC0 r := by
  refine ⟨fun k j => ?_, fun k j hk => by rw [e k (by omega)]; exact h.2 k j hk⟩
  by_cases c : k = 65
  · subst c
    exact ⟨lo32 _, hi32 _⟩
  · rw [e k c]; exact h.1 k j
def lr (sg : Sg) (x : Nat) : Int := (sg 65 x).toInt
def lval (sg : Sg) (x j : Nat) : Int := lr sg (x ||| 2 ^ j) + cs sg j x
/-- the least of those that may come next -/
def LB (n : Nat) (sg : Sg) (x : Nat) : Prop := (∀ j, j < n → x.testBit j = false → lr sg x ≤ lval sg x j) ∧ ∃ j, j < n ∧ x.testBit j = false ∧ lr sg x = lval sg x j
/-- laid, above v -/
def LA (n : Nat) (sg : Sg) (v : Int) : Prop := ∀ y : Nat, v < (y : Int) → y < 2 ^ n → (0 ≤ lr sg y ∧ lr sg y ≤ 12000000 * (zc y n : Int)) ∧ (y = 2 ^ n - 1 → lr sg y = 0) ∧ (y ≠ 2 ^ n - 1 → LB n sg y)
/-- endless, or one of those before m has it -/
def ATL (sg : Sg) (x O : Nat) (v : Int) (m : Nat) : Prop := v = 1000000000 ∨ ∃ j, j < m ∧ O.testBit j = true ∧ v = lval sg x j
theorem ATL_s {sg : Sg} {x O m : Nat} {v : Int} (h : ATL sg x O v m) : ATL sg x O v (m + 1) := by
  rcases h with z | ⟨j, z1, z2⟩
  · exact Or.inl z
  · exact Or.inr ⟨j, by omega, z2⟩
def LAT (n : Nat) (sg : Sg) (x : Nat) (v : Int) : Prop := ∃ j, j < n ∧ x.testBit j = false ∧ v = lval sg x j
theorem cs_cg {sg r : Sg} (e : r 23 = sg 23) (o x : Nat) : cs r o x = cs sg o x := by unfold cs pk; rw [e]
set_option maxHeartbeats 4000000 in
theorem l_54 {C : Sg} {r37 : (Int32 × Int32 × Sg) → Option Sg} {P : Sg → Prop} {v1 v2 left : Int32} (hI : IC0 C) (hH : HC C) (a0 : 0 ≤ v2.toInt) (a1 : v2.toInt.toNat < 2 ^ (C 3 2).toInt.toNat - 1) (hlen : ((2 ^ (C 3 2).toInt.toNat : Nat) : Int) ≤ (C 99 65).toInt) (hL : LA (C 3 2).toInt.toNat C v2.toInt) (l0 : 0 ≤ left.toInt) (hl : ∀ j, left.toInt.toNat.testBit j = (decide (j < (C 3 2).toInt.toNat) && !v2.toInt.toNat.testBit j))
    (hr : ∀ (x : Int32) (sg' : Sg), x.toInt = v2.toInt - 1 → (∀ k, k ≠ 65 → sg' k = C k) → LA (C 3 2).toInt.toNat sg' x.toInt → Ok P (r37 (v1, x, sg'))) : Ok P (LX9_loosen_54 r37 (v1, v2, (1000000000 : Int32), (0 : Int32), left, C)) := by
  have k0 : (0 : Int32).toInt = 0 := by decide
  have k1 : (1 : Int32).toInt = 1 := by decide
  have k12 : (12 : Int32).toInt = 12 := by decide
  have kN : (1000000000 : Int32).toInt = 1000000000 := by decide
  have hn := rdC3_2 hI
  obtain ⟨n, en⟩ : ∃ n, n = (C 3 2).toInt.toNat := ⟨_, rfl⟩
  obtain ⟨x, ex⟩ : ∃ x, x = v2.toInt.toNat := ⟨_, rfl⟩
  obtain ⟨O, eO⟩ : ∃ O, O = left.toInt.toNat := ⟨_, rfl⟩
  rw [← en, ← ex] at a1
  rw [← en] at hlen hL hr
  rw [← eO, ← en, ← ex] at hl
  have hx : x < 2 ^ n := by omega
  have n12 : n ≤ 12 := by omega
  have x4 := lt4096 hx n12
  have w4 := rdC99_65 hI
  have inO : ∀ j, O.testBit j = true ↔ (j < n ∧ x.testBit j = false) := fun j => by
    rw [hl j, Bool.and_eq_true, decide_eq_true_eq, Bool.not_eq_true']
  -- what one that is left gives
  have val : ∀ j, O.testBit j = true → x ||| 2 ^ j < 2 ^ n ∧ x < x ||| 2 ^ j ∧ 0 ≤ lr C (x ||| 2 ^ j) ∧ lr C (x ||| 2 ^ j) + 12000000 ≤ 12000000 * (zc x n : Int) ∧ 0 ≤ cs C j x ∧ cs C j x ≤ 12000000 := by
    intro j hj
    have hj' := (inO j).mp hj
    have g := or_gt hj'.2
    have o := or_lt hx hj'.1
    have b := (hL (x ||| 2 ^ j) (by omega) o).1
    have z := zc_lt hj'.1 hj'.2
    have c := cs_bd hI j x
    exact ⟨o, g, b.1, by omega, c.1, c.2⟩
  have zl := zc_le x n
  unfold LX9_loosen_54
  refine ok_loop (I := fun (q : Int32 × Int32 × Int32 × Int32 × Int32 × Sg) => q.1 = v1 ∧ q.2.1 = v2 ∧ q.2.2.2.2.2 = C ∧ 0 ≤ q.2.2.2.1.toInt ∧ q.2.2.2.1.toInt ≤ 12 ∧ q.2.2.2.2.1.toInt = ((O / 2 ^ q.2.2.2.1.toInt.toNat : Nat) : Int) ∧ q.2.2.1.toInt ≤ 1000000000 ∧ (∀ j, j < q.2.2.2.1.toInt.toNat → O.testBit j = true → q.2.2.1.toInt ≤ lval C x j) ∧ ATL C x O q.2.2.1.toInt q.2.2.2.1.toInt.toNat) (m := fun (q : Int32 × Int32 × Int32 × Int32 × Int32 × Sg) => (13 - q.2.2.2.1.toInt).toNat) _ ?_ ?_ _ ?_
  · intro q hq
    have := hq.2.2.2.1
    show (13 - q.2.2.2.1.toInt).toNat < 10000
    omega
  · intro rec q hq hrec
    obtain ⟨p1, p2, v3, v4, v5, sg⟩ := q
    replace hq : p1 = v1 ∧ p2 = v2 ∧ sg = C ∧ 0 ≤ v4.toInt ∧ v4.toInt ≤ 12 ∧ v5.toInt = ((O / 2 ^ v4.toInt.toNat : Nat) : Int) ∧ v3.toInt ≤ 1000000000 ∧ (∀ j, j < v4.toInt.toNat → O.testBit j = true → v3.toInt ≤ lval C x j) ∧ ATL C x O v3.toInt v4.toInt.toNat := hq
    obtain ⟨e1, e2, e3, q0, q1, q2, q3, q4, q5⟩ := hq
    subst e1 e2 e3
    show Ok P (fX9_loosen_54 r37 rec p1 p2 v3 v4 v5 sg)
    unfold fX9_loosen_54
    have hc := cl_i (i := p2) a0
    -- the end
    have fin : (∀ j, O.testBit j = true → j < v4.toInt.toNat) → Ok P (fX9_loosen_123 r37 p1 p2 v3 sg) := by
      intro hall
      obtain ⟨j0, j1, j2⟩ := ex_left hx (by omega)
      have b0 := (inO j0).mpr ⟨j1, j2⟩
      have l1 := q4 j0 (hall j0 b0) b0
      have vl := val j0 b0
      have lv3 : v3.toInt ≤ 12000000 * (zc x n : Int) := by unfold lval at l1; omega
      have att : LAT n sg x v3.toInt := by
        rcases q5 with z | ⟨j, z1, z2, z3⟩
        · omega
        · exact ⟨j, ((inO j).mp z2).1, ((inO j).mp z2).2, z3⟩
      have nn3 : 0 ≤ v3.toInt := by
        obtain ⟨j, z1, z2, z3⟩ := att
        have := val j ((inO j).mpr ⟨z1, z2⟩)
        unfold lval at z3
        omega
      unfold fX9_loosen_123
      refine ok_ginL (by omega) (by omega) ?_
      refine ok_lt (fun s2 e2 => ?_)
      refine ok_lt (fun x3 e3 => ?_)
      replace e3 : x3.toInt = p2.toInt + (-1) := by rw [e3]; exact add_c (-1) (by decide) (by omega) (by omega)
      rw [show p2.toNatClampNeg = x by omega] at e2
      have fr : ∀ k, k ≠ 65 → s2 k = sg k := fun k hk => by rw [e2, up2_n hk]
      have lx : lr s2 x = v3.toInt := by unfold lr; rw [e2, up2_e]
      have ly : ∀ y, y ≠ x → lr s2 y = lr sg y := fun y hy => by unfold lr; rw [e2, up2_o (Or.inr hy)]
      have ec := cs_cg (fr 23 (by decide))
      refine hr x3 s2 (by omega) fr (fun y hy hy2 => ?_)
      by_cases w : y = x
      · subst w
        refine ⟨by rw [lx]; omega, fun z => by omega, fun _ => ⟨fun j hj hb => ?_, ?_⟩⟩
        · have bj := (inO j).mpr ⟨hj, hb⟩
          have vj := val j bj
          have := q4 j (hall j bj) bj
          unfold lval at this ⊢
          rw [lx, ly _ (by omega), ec]
          exact this
        · obtain ⟨j, z1, z2, z3⟩ := att
          have vj := val j ((inO j).mpr ⟨z1, z2⟩)
          refine ⟨j, z1, z2, ?_⟩
          unfold lval at z3 ⊢
          rw [lx, ly _ (by omega), ec]
          exact z3
      · have old := hL y (by omega) hy2
        rw [ly y w]
        refine ⟨old.1, old.2.1, fun z => ?_⟩
        obtain ⟨o1, o2⟩ := old.2.2 z
        have gt : ∀ j, y.testBit j = false → y ||| 2 ^ j ≠ x := fun j hb => by
          have := or_gt hb
          omega
        refine ⟨fun j hj hb => ?_, ?_⟩
        · have := o1 j hj hb
          unfold lval at this ⊢
          rw [ly y w, ly _ (gt j hb), ec]
          exact this
        · obtain ⟨j, z1, z2, z3⟩ := o2
          refine ⟨j, z1, z2, ?_⟩
          unfold lval at z3 ⊢
          rw [ly y w, ly _ (gt j z2), ec]
          exact z3
    -- on
    have go : ∀ w : Int32, v4.toInt ≤ 11 → w.toInt ≤ 1000000000 → (∀ j, j < v4.toInt.toNat + 1 → O.testBit j = true → w.toInt ≤ lval sg x j) → ATL sg x O w.toInt (v4.toInt.toNat + 1) → Ok P (fX9_loosen_111 r37 rec p1 p2 w v4 v5 sg) := by
      intro w g0 g1 g2 g3
      unfold fX9_loosen_111
      refine ok_lt (fun y1 f1 => ?_)
      replace f1 : y1.toInt = v4.toInt + 1 := by rw [f1]; exact add_c 1 k1 (by omega) (by omega)
      refine ok_lt (fun y2 f2 => ?_)
      have sn := sh_next q2 f2
      have ey : y1.toInt.toNat = v4.toInt.toNat + 1 := by omega
      refine hrec (p1, p2, w, y1, y2, sg) ⟨rfl, rfl, rfl, by show 0 ≤ y1.toInt; omega, by show y1.toInt ≤ 12; omega, ?_, g1, ?_, ?_⟩ (show (13 - y1.toInt).toNat < (13 - v4.toInt).toNat by omega)
      · show y2.toInt = ((O / 2 ^ y1.toInt.toNat : Nat) : Int)
        rw [ey]; exact sn
      · show ∀ j, j < y1.toInt.toNat → _
        rw [ey]; exact g2
      · show ATL sg x O w.toInt y1.toInt.toNat
        rw [ey]; exact g3
    refine ok_ite (fun c => ?_) (fun c => ?_)
    · replace c := i_le.mp c
      exact fin (fun j hj => by have := ((inO j).mp hj).1; omega)
    · replace c := i_nle.mp c
      refine ok_ite (fun d => ?_) (fun d => ?_)
      · refine fin (fun j hj => ?_)
        refine Decidable.byContradiction fun z => ?_
        rw [sh_zero q2 d j (by omega)] at hj
        cases hj
      · refine ok_ite (fun f => ?_) (fun f => ?_)
        · have bj := (sh_bit q2).mp f
          have vj := val _ bj
          have jn := (inO _).mp bj
          have tn := tset_n (set := p2) (h := v4) a0 (by omega) q0 (by omega)
          have ti := tset_i (set := p2) (h := v4) a0 (by omega) q0 (by omega)
          rw [← ex] at tn
          refine ok_lt (fun x4' e4 => ?_)
          rw [← e4] at tn ti
          have hc4 := cl_i ti.1
          refine ok_ginL (by omega) (by omega) ?_
          obtain ⟨y6, cost, ecs⟩ := hcost_is (a := p2) (v := v4) hI hH a0 (by rw [← ex, ← en]; exact hx) q0 (by omega)
          rw [← ex] at ecs
          refine bnd2_of cost ?_
          refine ok_lt (fun x9 e9 => ?_)
          have ev : x9.toInt = lval sg x v4.toInt.toNat := by
            have hlr : (sg 65 x4'.toNatClampNeg).toInt = lr sg (x ||| 2 ^ v4.toInt.toNat) := by unfold lr; rw [← tn, show x4'.toNatClampNeg = x4'.toInt.toNat by omega]
            rw [e9, add_i (by omega) (by omega), hlr, ecs]
            rfl
          have b9 : x9.toInt ≤ 1000000000 := by rw [ev]; unfold lval; omega
          refine ok_ite (fun g => ?_) (fun g => ?_)
          · replace g := i_le.mp g
            unfold fX9_loosen_110
            refine go v3 (by omega) q3 (fun j hj hb => ?_) (ATL_s q5)
            by_cases w : j = v4.toInt.toNat
            · rw [w, ← ev]; exact g
            · exact q4 j (by omega) hb
          · replace g := i_nle.mp g
            unfold fX9_loosen_110
            refine go x9 (by omega) b9 (fun j hj hb => ?_) (Or.inr ⟨v4.toInt.toNat, by omega, bj, ev⟩)
            by_cases w : j = v4.toInt.toNat
            · rw [w, ev]; exact Int.le_refl _
            · have := q4 j (by omega) hb
              omega
        · have nb : ¬ O.testBit v4.toInt.toNat = true := fun z => f ((sh_bit q2).mpr z)
          refine go v3 (by omega) q3 (fun j hj hb => ?_) (ATL_s q5)
          by_cases w : j = v4.toInt.toNat
          · rw [w] at hb; exact absurd hb nb
          · exact q4 j (by omega) hb
  · refine ⟨rfl, rfl, rfl, by show 0 ≤ (0 : Int32).toInt; omega, by show (0 : Int32).toInt ≤ 12; omega, ?_, by show (1000000000 : Int32).toInt ≤ 1000000000; omega, ?_, Or.inl kN⟩
    · show left.toInt = ((O / 2 ^ (0 : Int32).toInt.toNat : Nat) : Int)
      rw [k0]
      show left.toInt = ((O / 1 : Nat) : Int)
      rw [Nat.div_one]; omega
    · intro j hj
      have hj' : j < (0 : Int32).toInt.toNat := hj
      rw [k0] at hj'
      exact absurd hj' (Nat.not_lt_zero _)
/-- the loose weights are laid -/
def LV (sg : Sg) : Prop := sg 4 5 = sg 65 0 ∧ LA (sg 3 2).toInt.toNat sg (-1)
theorem LA_cg {n : Nat} {sg r : Sg} {v : Int} (h : LA n sg v) (e65 : r 65 = sg 65) (e23 : r 23 = sg 23) : LA n r v := by
  have ec := cs_cg e23
  have el : ∀ y, lr r y = lr sg y := fun y => by unfold lr; rw [e65]
  have ev : ∀ y j, lval r y j = lval sg y j := fun y j => by unfold lval; rw [el, ec]
  intro y hy hy2
  obtain ⟨h1, h2, h3⟩ := h y hy hy2
  rw [el]
  refine ⟨h1, h2, fun z => ?_⟩
  obtain ⟨o1, j, o2, o3, o4⟩ := h3 z
  exact ⟨fun j hj hb => by rw [el, ev]; exact o1 j hj hb, j, o2, o3, by rw [el, ev]; exact o4⟩
def LF (A r : Sg) : Prop := (∀ k, k ≠ 65 → k ≠ 4 → k ≠ 99 → r k = A k) ∧ (∀ j, j ≠ 5 → r 4 j = A 4 j) ∧ (∀ j, j ≠ 65 → r 99 j = A 99 j)
set_option maxHeartbeats 4000000 in
theorem l_37 {A : Sg} {v1 x3 : Int32} (hI : IC0 A) (hH : HC A) (hv : v1.toInt = ((2 ^ (A 3 2).toInt.toNat : Nat) : Int) - 1) (hx3 : x3.toInt = v1.toInt - 1) (hlen : ((2 ^ (A 3 2).toInt.toNat : Nat) : Int) ≤ (A 99 65).toInt) (hL : LA (A 3 2).toInt.toNat A x3.toInt) : Ok (fun r => LF A r ∧ LV r) (LX9_loosen_37 (v1, x3, A)) := by
  have k0 : (0 : Int32).toInt = 0 := by decide
  have hn := rdC3_2 hI
  have w4 := rdC99_65 hI
  have pp : 0 < 2 ^ (A 3 2).toInt.toNat := Nat.pow_pos (by decide)
  obtain ⟨n, en⟩ : ∃ n, n = (A 3 2).toInt.toNat := ⟨_, rfl⟩
  rw [← en] at hv hlen hL pp
  unfold LX9_loosen_37
  refine ok_loop (I := fun (q : Int32 × Int32 × Sg) => q.1 = v1 ∧ -1 ≤ q.2.1.toInt ∧ q.2.1.toInt < v1.toInt ∧ (∀ k, k ≠ 65 → q.2.2 k = A k) ∧ LA n q.2.2 q.2.1.toInt) (m := fun (q : Int32 × Int32 × Sg) => (q.2.1.toInt + 1).toNat) _ ?_ ?_ _ ?_
  · intro q hq
    have h1 := hq.2.1
    have h2 := hq.2.2.1
    show (q.2.1.toInt + 1).toNat < 10000
    omega
  · intro rec q hq hrec
    obtain ⟨p1, v2, sg⟩ := q
    replace hq : p1 = v1 ∧ -1 ≤ v2.toInt ∧ v2.toInt < v1.toInt ∧ (∀ k, k ≠ 65 → sg k = A k) ∧ LA n sg v2.toInt := hq
    obtain ⟨e1, q0, q1, q2, q3⟩ := hq
    subst e1
    show Ok _ (fX9_loosen_37 rec p1 v2 sg)
    unfold fX9_loosen_37
    have i' : IC0 sg := ic_s65 hI q2
    have h' : HC sg := hc_cg hH (by rw [q2 3 (by decide)]) (fun k a b c => q2 k (by omega))
    have e3 : (sg 3 2) = A 3 2 := by rw [q2 3 (by decide)]
    have e99 : sg 99 65 = A 99 65 := by rw [q2 99 (by decide)]
    refine ok_ite (fun c => ?_) (fun c => ?_)
    · replace c := i_lt.mp c
      have kc : (0 : Int32).toNatClampNeg = 0 := by decide
      refine ok_ginL (by omega) (by rw [e99]; omega) ?_
      refine ok_lt (fun x5 e5 => ?_)
      refine ok_lt (fun s4 e4 => ?_)
      have f4 : ∀ k, k ≠ 4 → s4 k = sg k := fun k hk => by rw [e4, up2_n hk]
      refine ok_some ⟨⟨fun k a b c => by rw [f4 k b]; exact q2 k a, fun j hj => by rw [e4, up2_o (Or.inr hj), q2 4 (by decide)], fun j _ => by rw [f4 99 (by decide), q2 99 (by decide)]⟩, ?_, ?_⟩
      · rw [e4, up2_e, up2_n (by decide), e5, kc]
      · have : (s4 3 2).toInt.toNat = n := by rw [f4 3 (by decide), e3, en]
        rw [this]
        have la : LA n sg (-1) := by
          intro y hy hy2
          exact q3 y (by omega) hy2
        exact LA_cg la (f4 65 (by decide)) (f4 23 (by decide))
    · replace c := i_nlt.mp c
      have hc := cl_i (i := v2) (by omega)
      refine ok_lt (fun x5 e5 => ?_)
      have nn : 0 ≤ p1.toInt := by omega
      have cp := tb_cpl (y := p1) (v := v2) nn (by omega)
      have al := and_l (a := p1) (b := v2 ^^^ (-1 : Int32)) nn
      rw [← e5] at cp al
      have ep : p1.toInt.toNat = 2 ^ n - 1 := by omega
      rw [ep] at cp
      refine l_54 i' h' (by omega) ?_ ?_ ?_ al.1 (fun j => ?_) (fun x sg' hx fr la => ?_)
      · rw [e3, ← en]; omega
      · rw [e3, ← en, e99]; exact hlen
      · rw [e3, ← en]; exact q3
      · rw [cp, tb_all, e3, ← en]
      · rw [e3, ← en] at la
        exact hrec (p1, x, sg') ⟨rfl, by show -1 ≤ x.toInt; omega, by show x.toInt < p1.toInt; omega, fun k hk => by show sg' k = A k; rw [fr k hk]; exact q2 k hk, la⟩ (show (x.toInt + 1).toNat < (v2.toInt + 1).toNat by omega)
  · exact ⟨rfl, by show -1 ≤ x3.toInt; omega, by show x3.toInt < v1.toInt; omega, fun _ _ => rfl, hL⟩
theorem l_26 {A sg : Sg} {v1 : Int32} (hI : IC0 sg) (hH : HC sg) (hF : LF A sg) (hv : v1.toInt = ((2 ^ (sg 3 2).toInt.toNat : Nat) : Int) - 1) (hlen : ((2 ^ (sg 3 2).toInt.toNat : Nat) : Int) ≤ (sg 99 65).toInt) : Ok (fun r => LF A r ∧ LV r) (fX9_loosen_26 v1 sg) := by
  have k0 : (0 : Int32).toInt = 0 := by decide
  have pp : 0 < 2 ^ (sg 3 2).toInt.toNat := Nat.pow_pos (by decide)
  have w4 := rdC99_65 hI
  have hc := cl_i (i := v1) (by omega)
  unfold fX9_loosen_26
  refine ok_ginL (by omega) (by omega) ?_
  refine ok_lt (fun s2 e2 => ?_)
  refine ok_lt (fun x3 e3 => ?_)
  replace e3 : x3.toInt = v1.toInt - 1 := by rw [e3]; exact sub_c 1 (by decide) (by omega) (by omega)
  have fr : ∀ k, k ≠ 65 → s2 k = sg k := fun k hk => by rw [e2, up2_n hk]
  have e32 : s2 3 2 = sg 3 2 := by rw [fr 3 (by decide)]
  refine ok_mono (l_37 (A := s2) (v1 := v1) (x3 := x3) (ic_s65 hI fr) (hc_cg hH e32 (fun k a b c => fr k (by omega))) (by rw [e32]; exact hv) e3 (by rw [e32, fr 99 (by decide)]; exact hlen) ?_) (fun r h => ?_)
  · rw [e32]
    intro y hy hy2
    have ey : y = v1.toNatClampNeg := by omega
    have l0 : lr s2 y = 0 := by unfold lr; rw [e2, ey, up2_e]; exact k0
    rw [l0]
    exact ⟨⟨by omega, by omega⟩, fun _ => rfl, fun z => by omega⟩
  · obtain ⟨⟨g1, g2, g3⟩, g4⟩ := h
    exact ⟨⟨fun k a b c => by rw [g1 k a b c, fr k a]; exact hF.1 k a b c, fun j hj => by rw [g2 j hj, fr 4 (by decide)]; exact hF.2.1 j hj, fun j hj => by rw [g3 j hj, fr 99 (by decide)]; exact hF.2.2 j hj⟩, g4⟩
theorem l_loosen {sg : Sg} (hI : IC0 sg) (hH : HC sg) : Ok (fun r => LF sg r ∧ LV r) (fX9_loosen sg) := by
  have hn := rdC3_2 hI
  have w4 := rdC99_65 hI
  have pp : 0 < 2 ^ (sg 3 2).toInt.toNat := Nat.pow_pos (by decide)
  have q : 2 ^ (sg 3 2).toInt.toNat ≤ 2 ^ 12 := Nat.pow_le_pow_right (by decide) (by omega)
  have e12 : (2 : Nat) ^ 12 = 4096 := by decide
  obtain ⟨y, ey, y1, y2⟩ := all_is hI
  unfold fX9_loosen
  refine bnd2_of ey ?_
  refine ok_ite (fun c => ?_) (fun c => ?_)
  · replace c := i_lt.mp c
    rw [ofn_i (by omega)] at c
    exact l_26 hI hH ⟨fun _ _ _ _ => rfl, fun _ _ => rfl, fun _ _ => rfl⟩ y1 (by omega)
  · refine ok_lt (fun x5 e5 => ?_)
    replace e5 : x5.toInt = y.toInt + 1 := by rw [e5]; exact add_c 1 (by decide) (by omega) (by omega)
    refine ok_gnw (by omega) (by omega) ?_
    refine ok_lt (fun s7 e7 => ?_)
    have f7 : ∀ k, k ≠ 65 → k ≠ 99 → s7 k = sg k := fun k a b => by
      funext j
      rw [e7, nw2_is, if_neg a, if_neg (fun z => b z.1)]
    have f99 : ∀ j, j ≠ 65 → s7 99 j = sg 99 j := fun j hj => by rw [e7, nw2_is, if_neg (by decide), if_neg (fun z => hj z.2)]
    have g99 : s7 99 65 = x5 := by rw [e7, nw2_is, if_neg (by decide), if_pos ⟨rfl, rfl⟩]
    have i7 : IC0 s7 := by
      have := StC0.nw (M := [65, 99]) (k := 65) (n := x5) (StC0.rf (M := [65, 99]) hI) (by decide) (by decide) (by decide) (by omega) (by omega)
      rw [← e7] at this
      exact this.1
    have e32 : s7 3 2 = sg 3 2 := by rw [f7 3 (by decide) (by decide)]
    exact l_26 i7 (hc_cg hH e32 (fun k a b c => f7 k (by omega) (by omega))) ⟨fun k a b c => f7 k a c, fun j _ => by rw [f7 4 (by decide) (by decide)], f99⟩ (by rw [e32]; exact y1) (by rw [e32, g99]; omega)
