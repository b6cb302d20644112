def tbC (k j : Nat) : Int × Int := if k = 1 then (if j = 0 then (0, 12) else ((-2147483648), 2147483647)) else if k = 2 then (if j = 0 then (0, 8) else if j = 1 then (0, 7) else ((-2147483648), 2147483647)) else if k = 3 then (if j = 2 then (0, 12) else ((-2147483648), 2147483647)) else if k = 5 then (if j = 0 then (0, 12) else ((-2147483648), 2147483647)) else if k = 8 then (if j = 1 then (0, 132) else ((-2147483648), 2147483647)) else if k = 11 then (0, 4) else if k = 12 then ((-2000000005), 11) else if k = 14 then ((-1), 3) else if k = 15 then (0, 1000000) else if k = 17 then (0, 11) else if k = 18 then ((-1), 11) else if k = 19 then (0, 4) else if k = 20 then ((-1), 11) else if k = 21 then (0, 4095) else if k = 22 then (0, 4095) else if k = 23 then (0, 1000000) else if k = 24 then (0, 4095) else if k = 27 then (0, 4095) else if k = 28 then (0, 4095) else if k = 29 then (0, 4095) else if k = 30 then (0, 4095) else if k = 31 then (0, 11) else if k = 32 then (0, 11) else if k = 33 then (0, 11) else if k = 36 then (0, 4095) else if k = 38 then (0, 12) else if k = 39 then (0, 11) else if k = 41 then (0, 4095) else if k = 42 then (0, 4095) else if k = 43 then (0, 4095) else if k = 44 then (0, 11) else if k = 45 then (0, 4095) else if k = 46 then (0, 4095) else if 47 ≤ k ∧ k ≤ 54 then (if j = 0 then (0, 1) else if j = 1 then (0, 11) else if j = 2 then ((-2000000005), 11) else if j = 4 then ((-1), 3) else ((-2147483648), 2147483647)) else if 55 ≤ k ∧ k ≤ 62 then (0, 1000000) else if k = 99 then (if 63 ≤ j ∧ j ≤ 66 then (1, 4096) else ((-2147483648), 2147483647)) else ((-2147483648), 2147483647)
def tbM (k j : Nat) : Int × Int := if k = 0 then (if j = 2 then (0, 8) else if j = 4 then (0, 12) else if j = 7 then (0, 1) else if j = 17 then (0, 140) else ((-2147483648), 2147483647)) else if k = 1 then (if j = 0 then (0, 12) else ((-2147483648), 2147483647)) else if k = 3 then (0, 11) else if k = 6 then (0, 1) else if k = 7 then (0, 11) else if k = 8 then (0, 1) else if k = 11 then (0, 11) else ((-2147483648), 2147483647)
def IC0 (sg : Sg) : Prop := (∀ k j, (tbC k j).1 ≤ (sg k j).toInt ∧ (sg k j).toInt ≤ (tbC k j).2) ∧ (∀ k j, (k = 12 ∨ (47 ≤ k ∧ k ≤ 54 ∧ j = 2)) → sg k j = -2000000005 ∨ 0 ≤ (sg k j).toInt)
/-- a hen that counts -/
def cnt (sg : Sg) (h : Nat) : Prop := (h : Int) < (sg 1 0).toInt ∧ (sg 11 h = 4 → sg 13 h = 1)
theorem pw_ex (sg : Sg) : ∃ N : Int, N = ((2 ^ (sg 3 2).toInt.toNat : Nat) : Int) := ⟨_, rfl⟩
noncomputable def pw (sg : Sg) : Int := Classical.choose (pw_ex sg)
theorem pw_is (sg : Sg) : pw sg = ((2 ^ (sg 3 2).toInt.toNat : Nat) : Int) := Classical.choose_spec (pw_ex sg)
def CR (sg : Sg) : Prop := (sg 4 2).toInt ≤ (sg 3 1).toInt ∧ (sg 3 1).toInt ≤ (sg 1 1).toInt ∧ ((sg 4 2).toInt = (sg 3 1).toInt → pw sg ≤ (sg 99 63).toInt ∧ pw sg ≤ (sg 99 64).toInt) ∧ ((sg 3 1).toInt = (sg 1 1).toInt → ∀ h, cnt sg h → 0 ≤ (sg 18 h).toInt) ∧ (sg 99 63).toInt = (sg 99 64).toInt
def IC (sg : Sg) : Prop := IC0 sg ∧ CR sg
/-- a flock as the reference writes it -/
def SV (S : Nat → Int32) : Prop := 0 ≤ (S 0).toInt ∧ (S 0).toInt ≤ 12 ∧ (∀ h, h < 12 → S (49 + 13 * h) = 0) ∧ (∀ j, 49 ≤ j → j < 193 → 0 ≤ (S j).toInt ∧ (S j).toInt ≤ 1000000)
def IM (sg : Sg) (lg : Lg) : Prop := (∀ k j, (tbM k j).1 ≤ (sg k j).toInt ∧ (sg k j).toInt ≤ (tbM k j).2) ∧ (∀ i, (lg 12 (14 * i + 1)).toInt ≤ 12) ∧ SV (sg 1)
def StC0 (M : List Nat) (s0 sg : Sg) : Prop := IC0 sg ∧ ∀ k, k ∉ M → sg k = s0 k
def StC (M : List Nat) (s0 sg : Sg) : Prop := IC sg ∧ ∀ k, k ∉ M → sg k = s0 k
def StM (M : List Nat) (s0 : Sg) (l0 : Lg) (sg : Sg) (lg : Lg) : Prop := IM sg lg ∧ (∀ k, k ∉ M → sg k = s0 k) ∧ (∀ k, k ∉ M → lg k = l0 k) ∧ sg 0 2 = s0 0 2
theorem StC0.fr {M : List Nat} {s0 sg : Sg} (h : StC0 M s0 sg) : ∀ k, k ∉ M → sg k = s0 k := h.2
theorem StC.fr {M : List Nat} {s0 sg : Sg} (h : StC M s0 sg) : ∀ k, k ∉ M → sg k = s0 k := h.2
theorem StM.fr {M : List Nat} {s0 sg : Sg} {l0 lg : Lg} (h : StM M s0 l0 sg lg) : ∀ k, k ∉ M → sg k = s0 k := h.2.1
theorem StM.frL {M : List Nat} {s0 sg : Sg} {l0 lg : Lg} (h : StM M s0 l0 sg lg) : ∀ k, k ∉ M → lg k = l0 k := h.2.2.1
theorem StM.kp {M : List Nat} {s0 sg : Sg} {l0 lg : Lg} (h : StM M s0 l0 sg lg) : sg 0 2 = s0 0 2 := h.2.2.2
theorem StC0.rf {M : List Nat} {sg : Sg} (h : IC0 sg) : StC0 M sg sg := ⟨h, fun _ _ => rfl⟩
theorem StC.rf {M : List Nat} {sg : Sg} (h : IC sg) : StC M sg sg := ⟨h, fun _ _ => rfl⟩
theorem StM.rf {M : List Nat} {sg : Sg} {lg : Lg} (h : IM sg lg) : StM M sg lg sg lg := ⟨h, fun _ _ => rfl, fun _ _ => rfl, rfl⟩
theorem StC0.tr {M M' : List Nat} {s0 sg sg' : Sg} (h : StC0 M s0 sg) (h' : StC0 M' sg sg') (hs : ∀ k ∈ M', k ∈ M) : StC0 M s0 sg' := ⟨h'.1, fun k hk => (h'.2 k (fun z => hk (hs k z))).trans (h.2 k hk)⟩
theorem StC.tr {M M' : List Nat} {s0 sg sg' : Sg} (h : StC M s0 sg) (h' : StC M' sg sg') (hs : ∀ k ∈ M', k ∈ M) : StC M s0 sg' := ⟨h'.1, fun k hk => (h'.2 k (fun z => hk (hs k z))).trans (h.2 k hk)⟩
theorem StM.tr {M M' : List Nat} {s0 sg sg' : Sg} {l0 lg lg' : Lg} (h : StM M s0 l0 sg lg) (h' : StM M' sg lg sg' lg') (hs : ∀ k ∈ M', k ∈ M) : StM M s0 l0 sg' lg' := ⟨h'.1, fun k hk => (h'.2.1 k (fun z => hk (hs k z))).trans (h.2.1 k hk), fun k hk => (h'.2.2.1 k (fun z => hk (hs k z))).trans (h.2.2.1 k hk), h'.2.2.2.trans h.2.2.2⟩
theorem up2_is (f : Sg) (k j : Nat) (v : Int32) (a b : Nat) : up2 f k j v a b = if a = k ∧ b = j then v else f a b := by
  unfold up2
  by_cases h : a = k
  · rw [if_pos h]
    by_cases h2 : b = j
    · simp [upd, h, h2]
    · simp [upd, h, h2]
  · rw [if_neg h, if_neg (fun z => h z.1)]
/-- what CR looks at -/
def dep (k j : Nat) : Prop := k = 1 ∨ k = 3 ∨ (k = 4 ∧ j = 2) ∨ k = 11 ∨ k = 13 ∨ k = 18 ∨ (k = 99 ∧ (j = 63 ∨ j = 64))
theorem pw_cg {sg sg' : Sg} (h : sg' 3 2 = sg 3 2) : pw sg' = pw sg := by rw [pw_is, pw_is, h]
theorem cnt_cg {sg sg' : Sg} {h : Nat} (h0 : sg' 1 0 = sg 1 0) (h1 : sg' 11 h = sg 11 h) (h2 : sg' 13 h = sg 13 h) : cnt sg' h ↔ cnt sg h := by unfold cnt; rw [h0, h1, h2]
theorem CR_cg {sg sg' : Sg} (h : CR sg) (hd : ∀ k j, dep k j → sg' k j = sg k j) : CR sg' := by
  obtain ⟨h1, h2, h3, h4, h5⟩ := h
  have e1 := hd 4 2 (by unfold dep; omega)
  have e2 := hd 3 1 (by unfold dep; omega)
  have e3 := hd 1 1 (by unfold dep; omega)
  have e4 := hd 99 63 (by unfold dep; omega)
  have e5 := hd 99 64 (by unfold dep; omega)
  have e6 := pw_cg (hd 3 2 (by unfold dep; omega))
  refine ⟨by rw [e1, e2]; exact h1, by rw [e2, e3]; exact h2, by rw [e1, e2, e4, e5, e6]; exact h3, ?_, by rw [e4, e5]; exact h5⟩
  rw [e2, e3]
  intro hh x hx
  rw [hd 18 x (by unfold dep; omega)]
  exact h4 hh x ((cnt_cg (hd 1 0 (by unfold dep; omega)) (hd 11 x (by unfold dep; omega)) (hd 13 x (by unfold dep; omega))).mp hx)
theorem StC0.up {M : List Nat} {s0 sg : Sg} {k j : Nat} {v : Int32} (h : StC0 M s0 sg) (hk : k ∈ M) (h12 : ¬ (k = 12 ∨ (47 ≤ k ∧ k ≤ 54))) (h1 : (tbC k j).1 ≤ v.toInt) (h2 : v.toInt ≤ (tbC k j).2) : StC0 M s0 (up2 sg k j v) := by
  refine ⟨⟨fun a b => ?_, fun a b hab => ?_⟩, fun a ha => ?_⟩
  · rw [up2_is]
    by_cases c : a = k ∧ b = j
    · rw [if_pos c, c.1, c.2]; exact ⟨h1, h2⟩
    · rw [if_neg c]; exact h.1.1 a b
  · rw [up2_is, if_neg (by omega)]; exact h.1.2 a b hab
  · rw [up2_n (fun z : a = k => ha (by rw [z]; exact hk))]; exact h.2 a ha
theorem StC.to0 {M : List Nat} {s0 sg : Sg} (h : StC M s0 sg) : StC0 M s0 sg := ⟨h.1.1, h.2⟩
theorem StC.up {M : List Nat} {s0 sg : Sg} {k j : Nat} {v : Int32} (h : StC M s0 sg) (hk : k ∈ M) (h12 : ¬ (k = 12 ∨ (47 ≤ k ∧ k ≤ 54))) (hd : ¬ dep k j) (h1 : (tbC k j).1 ≤ v.toInt) (h2 : v.toInt ≤ (tbC k j).2) : StC M s0 (up2 sg k j v) := by
  have h0 := h.to0.up hk h12 h1 h2
  refine ⟨⟨h0.1, CR_cg h.1.2 (fun a b hab => ?_)⟩, h0.2⟩
  rw [up2_is, if_neg (fun z => hd (by rw [← z.1, ← z.2]; exact hab))]
theorem StM.up {M : List Nat} {s0 sg : Sg} {l0 lg : Lg} {k j : Nat} {v : Int32} (h : StM M s0 l0 sg lg) (hk : k ∈ M) (hk1 : k ≠ 1) (hk2 : k ≠ 0 ∨ j ≠ 2) (h1 : (tbM k j).1 ≤ v.toInt) (h2 : v.toInt ≤ (tbM k j).2) : StM M s0 l0 (up2 sg k j v) lg := by
  refine ⟨⟨fun a b => ?_, h.1.2.1, by rw [up2_n (fun z : 1 = k => hk1 z.symm)]; exact h.1.2.2⟩, fun a ha => ?_, h.2.2.1, by rw [up2_is, if_neg (by omega)]; exact h.2.2.2⟩
  · rw [up2_is]
    by_cases c : a = k ∧ b = j
    · rw [if_pos c, c.1, c.2]; exact ⟨h1, h2⟩
    · rw [if_neg c]; exact h.1.1 a b
  · rw [up2_n (fun z : a = k => ha (by rw [z]; exact hk))]; exact h.2.1 a ha
theorem StM.upL {M : List Nat} {s0 sg : Sg} {l0 lg lg' : Lg} {k j : Nat} {v : Int64} (h : StM M s0 l0 sg lg) (hk : k ∈ M) (h12 : k ≠ 12) (e : lg' = up2L lg k j v) : StM M s0 l0 sg lg' := by
  subst e
  refine ⟨⟨h.1.1, fun i => ?_, h.1.2.2⟩, h.2.1, fun a ha => ?_, h.2.2.2⟩
  · rw [up2L_n (fun z => h12 z.symm)]; exact h.1.2.1 i
  · rw [up2L_n (fun z : a = k => ha (by rw [z]; exact hk))]; exact h.2.2.1 a ha
theorem upL_4 {M : List Nat} {s0 sg : Sg} {l0 lg lg' : Lg} {j : Nat} {v : Int64} (h : StM M s0 l0 sg lg) (hk : 4 ∈ M) (e : lg' = up2L lg 4 j v) : StM M s0 l0 sg lg' := h.upL hk (by decide) e
theorem upL_5 {M : List Nat} {s0 sg : Sg} {l0 lg lg' : Lg} {j : Nat} {v : Int64} (h : StM M s0 l0 sg lg) (hk : 5 ∈ M) (e : lg' = up2L lg 5 j v) : StM M s0 l0 sg lg' := h.upL hk (by decide) e
theorem nw2_is (f : Sg) (k : Nat) (n : Int32) (a b : Nat) : nw2 f k n a b = if a = k then 0 else if a = 99 ∧ b = k then n else f a b := by
  unfold nw2
  by_cases h : a = k
  · simp [h]
  · rw [if_neg h, if_neg h]
    by_cases h2 : a = 99
    · by_cases h3 : b = k
      · simp [upd, h2, h3]
      · simp [upd, h2, h3]
    · rw [if_neg h2, if_neg (fun z => h2 z.1)]
theorem StC0.nw {M : List Nat} {s0 sg : Sg} {k : Nat} {n : Int32} (h : StC0 M s0 sg) (hk : k ∈ M) (h99 : 99 ∈ M) (h63 : 63 ≤ k ∧ k ≤ 66) (h1 : 1 ≤ n.toInt) (h2 : n.toInt ≤ 4096) : StC0 M s0 (nw2 sg k n) := by
  have k0 : (0 : Int32).toInt = 0 := by decide
  refine ⟨⟨fun a b => ?_, fun a b hab => ?_⟩, fun a ha => ?_⟩
  · rw [nw2_is]
    by_cases c : a = k
    · rw [if_pos c, k0, c]
      rcases (show k = 63 ∨ k = 64 ∨ k = 65 ∨ k = 66 by omega) with z | z | z | z <;> subst z <;> exact (show (-2147483648 : Int) ≤ 0 ∧ (0 : Int) ≤ 2147483647 by decide)
    · rw [if_neg c]
      by_cases c2 : a = 99 ∧ b = k
      · rw [if_pos c2, c2.1, c2.2]
        rcases (show k = 63 ∨ k = 64 ∨ k = 65 ∨ k = 66 by omega) with z | z | z | z <;> subst z <;> exact ⟨h1, h2⟩
      · rw [if_neg c2]; exact h.1.1 a b
  · rw [nw2_is, if_neg (by omega), if_neg (by omega)]; exact h.1.2 a b hab
  · rw [← h.2 a ha]
    funext b
    rw [nw2_is, if_neg (fun z : a = k => ha (by rw [z]; exact hk)), if_neg (fun z : a = 99 ∧ b = k => ha (by rw [z.1]; exact h99))]
theorem StC.nw {M : List Nat} {s0 sg : Sg} {k : Nat} {n : Int32} (h : StC M s0 sg) (hk : k ∈ M) (h99 : 99 ∈ M) (h63 : 65 ≤ k ∧ k ≤ 66) (h1 : 1 ≤ n.toInt) (h2 : n.toInt ≤ 4096) : StC M s0 (nw2 sg k n) := by
  have h0 := h.to0.nw hk h99 ⟨by omega, h63.2⟩ h1 h2
  refine ⟨⟨h0.1, CR_cg h.1.2 (fun a b hab => ?_)⟩, h0.2⟩
  unfold dep at hab
  rw [nw2_is, if_neg (by omega), if_neg (by omega)]
theorem nwC65 {M : List Nat} {s0 sg x : Sg} {n : Int32} (h : StC M s0 sg) (hk : 65 ∈ M) (h99 : 99 ∈ M) (e : x = nw2 sg 65 n) (h1 : 1 ≤ n.toInt) (h2 : n.toInt ≤ 4096) : StC M s0 x := by rw [e]; exact h.nw hk h99 (by decide) h1 h2
theorem nwC66 {M : List Nat} {s0 sg x : Sg} {n : Int32} (h : StC M s0 sg) (hk : 66 ∈ M) (h99 : 99 ∈ M) (e : x = nw2 sg 66 n) (h1 : 1 ≤ n.toInt) (h2 : n.toInt ≤ 4096) : StC M s0 x := by rw [e]; exact h.nw hk h99 (by decide) h1 h2
theorem rdC1_0 {sg : Sg} (h : IC0 sg) : 0 ≤ (sg 1 0).toInt ∧ (sg 1 0).toInt ≤ 12 := h.1 1 0
theorem rdC2_0 {sg : Sg} (h : IC0 sg) : 0 ≤ (sg 2 0).toInt ∧ (sg 2 0).toInt ≤ 8 := h.1 2 0
theorem rdC2_1 {sg : Sg} (h : IC0 sg) : 0 ≤ (sg 2 1).toInt ∧ (sg 2 1).toInt ≤ 7 := h.1 2 1
theorem upZ3_1 {M : List Nat} {s0 sg x : Sg} {v : Int32} (h : StC0 M s0 sg) (hk : 3 ∈ M) (e : x = up2 sg 3 1 v) : StC0 M s0 x := by rw [e]; exact h.up hk (by decide) (lo32 v) (hi32 v)
theorem rdC3_2 {sg : Sg} (h : IC0 sg) : 0 ≤ (sg 3 2).toInt ∧ (sg 3 2).toInt ≤ 12 := h.1 3 2
theorem upZ3_2 {M : List Nat} {s0 sg x : Sg} {v : Int32} (h : StC0 M s0 sg) (hk : 3 ∈ M) (e : x = up2 sg 3 2 v) (h1 : 0 ≤ v.toInt) (h2 : v.toInt ≤ 12) : StC0 M s0 x := by rw [e]; exact h.up hk (by decide) h1 h2
theorem upZ4_2 {M : List Nat} {s0 sg x : Sg} {v : Int32} (h : StC0 M s0 sg) (hk : 4 ∈ M) (e : x = up2 sg 4 2 v) : StC0 M s0 x := by rw [e]; exact h.up hk (by decide) (lo32 v) (hi32 v)
theorem upZ4_3 {M : List Nat} {s0 sg x : Sg} {v : Int32} (h : StC0 M s0 sg) (hk : 4 ∈ M) (e : x = up2 sg 4 3 v) : StC0 M s0 x := by rw [e]; exact h.up hk (by decide) (lo32 v) (hi32 v)
theorem upC4_3 {M : List Nat} {s0 sg x : Sg} {v : Int32} (h : StC M s0 sg) (hk : 4 ∈ M) (e : x = up2 sg 4 3 v) : StC M s0 x := by rw [e]; exact h.up hk (by decide) (by unfold dep; omega) (lo32 v) (hi32 v)
theorem upZ4_4 {M : List Nat} {s0 sg x : Sg} {v : Int32} (h : StC0 M s0 sg) (hk : 4 ∈ M) (e : x = up2 sg 4 4 v) : StC0 M s0 x := by rw [e]; exact h.up hk (by decide) (lo32 v) (hi32 v)
theorem upC4_4 {M : List Nat} {s0 sg x : Sg} {v : Int32} (h : StC M s0 sg) (hk : 4 ∈ M) (e : x = up2 sg 4 4 v) : StC M s0 x := by rw [e]; exact h.up hk (by decide) (by unfold dep; omega) (lo32 v) (hi32 v)
theorem upZ4_5 {M : List Nat} {s0 sg x : Sg} {v : Int32} (h : StC0 M s0 sg) (hk : 4 ∈ M) (e : x = up2 sg 4 5 v) : StC0 M s0 x := by rw [e]; exact h.up hk (by decide) (lo32 v) (hi32 v)
theorem upC4_5 {M : List Nat} {s0 sg x : Sg} {v : Int32} (h : StC M s0 sg) (hk : 4 ∈ M) (e : x = up2 sg 4 5 v) : StC M s0 x := by rw [e]; exact h.up hk (by decide) (by unfold dep; omega) (lo32 v) (hi32 v)
theorem rdC5_0 {sg : Sg} (h : IC0 sg) : 0 ≤ (sg 5 0).toInt ∧ (sg 5 0).toInt ≤ 12 := h.1 5 0
theorem upC5_0 {M : List Nat} {s0 sg x : Sg} {v : Int32} (h : StC M s0 sg) (hk : 5 ∈ M) (e : x = up2 sg 5 0 v) (h1 : 0 ≤ v.toInt) (h2 : v.toInt ≤ 12) : StC M s0 x := by rw [e]; exact h.up hk (by decide) (by unfold dep; omega) h1 h2
theorem upC7_1 {M : List Nat} {s0 sg x : Sg} {v : Int32} (h : StC M s0 sg) (hk : 7 ∈ M) (e : x = up2 sg 7 1 v) : StC M s0 x := by rw [e]; exact h.up hk (by decide) (by unfold dep; omega) (lo32 v) (hi32 v)
theorem upC7_2 {M : List Nat} {s0 sg x : Sg} {v : Int32} (h : StC M s0 sg) (hk : 7 ∈ M) (e : x = up2 sg 7 2 v) : StC M s0 x := by rw [e]; exact h.up hk (by decide) (by unfold dep; omega) (lo32 v) (hi32 v)
theorem rdC8_1 {sg : Sg} (h : IC0 sg) : 0 ≤ (sg 8 1).toInt ∧ (sg 8 1).toInt ≤ 132 := h.1 8 1
theorem upC8_1 {M : List Nat} {s0 sg x : Sg} {v : Int32} (h : StC M s0 sg) (hk : 8 ∈ M) (e : x = up2 sg 8 1 v) (h1 : 0 ≤ v.toInt) (h2 : v.toInt ≤ 132) : StC M s0 x := by rw [e]; exact h.up hk (by decide) (by unfold dep; omega) h1 h2
theorem upC10_1 {M : List Nat} {s0 sg x : Sg} {v : Int32} (h : StC M s0 sg) (hk : 10 ∈ M) (e : x = up2 sg 10 1 v) : StC M s0 x := by rw [e]; exact h.up hk (by decide) (by unfold dep; omega) (lo32 v) (hi32 v)
theorem rdC99_63 {sg : Sg} (h : IC0 sg) : 1 ≤ (sg 99 63).toInt ∧ (sg 99 63).toInt ≤ 4096 := h.1 99 63
theorem rdC99_64 {sg : Sg} (h : IC0 sg) : 1 ≤ (sg 99 64).toInt ∧ (sg 99 64).toInt ≤ 4096 := h.1 99 64
theorem rdC99_65 {sg : Sg} (h : IC0 sg) : 1 ≤ (sg 99 65).toInt ∧ (sg 99 65).toInt ≤ 4096 := h.1 99 65
theorem rdC99_66 {sg : Sg} (h : IC0 sg) : 1 ≤ (sg 99 66).toInt ∧ (sg 99 66).toInt ≤ 4096 := h.1 99 66
theorem rdC11 {sg : Sg} (h : IC0 sg) {j : Nat} : 0 ≤ (sg 11 j).toInt ∧ (sg 11 j).toInt ≤ 4 := h.1 11 j
theorem rdC12 {sg : Sg} (h : IC0 sg) {j : Nat} : (-2000000005) ≤ (sg 12 j).toInt ∧ (sg 12 j).toInt ≤ 11 := h.1 12 j
theorem rdC14 {sg : Sg} (h : IC0 sg) {j : Nat} : (-1) ≤ (sg 14 j).toInt ∧ (sg 14 j).toInt ≤ 3 := h.1 14 j
theorem rdC15 {sg : Sg} (h : IC0 sg) {j : Nat} : 0 ≤ (sg 15 j).toInt ∧ (sg 15 j).toInt ≤ 1000000 := h.1 15 j
theorem rdC17 {sg : Sg} (h : IC0 sg) {j : Nat} : 0 ≤ (sg 17 j).toInt ∧ (sg 17 j).toInt ≤ 11 := h.1 17 j
theorem upZ17 {M : List Nat} {s0 sg x : Sg} {j : Nat} {v : Int32} (h : StC0 M s0 sg) (hk : 17 ∈ M) (e : x = up2 sg 17 j v) (h1 : 0 ≤ v.toInt) (h2 : v.toInt ≤ 11) : StC0 M s0 x := by rw [e]; exact h.up hk (by decide) h1 h2
theorem upC17 {M : List Nat} {s0 sg x : Sg} {j : Nat} {v : Int32} (h : StC M s0 sg) (hk : 17 ∈ M) (e : x = up2 sg 17 j v) (h1 : 0 ≤ v.toInt) (h2 : v.toInt ≤ 11) : StC M s0 x := by rw [e]; exact h.up hk (by decide) (by unfold dep; omega) h1 h2
theorem rdC18 {sg : Sg} (h : IC0 sg) {j : Nat} : (-1) ≤ (sg 18 j).toInt ∧ (sg 18 j).toInt ≤ 11 := h.1 18 j
theorem upZ18 {M : List Nat} {s0 sg x : Sg} {j : Nat} {v : Int32} (h : StC0 M s0 sg) (hk : 18 ∈ M) (e : x = up2 sg 18 j v) (h1 : (-1) ≤ v.toInt) (h2 : v.toInt ≤ 11) : StC0 M s0 x := by rw [e]; exact h.up hk (by decide) h1 h2
theorem rdC19 {sg : Sg} (h : IC0 sg) {j : Nat} : 0 ≤ (sg 19 j).toInt ∧ (sg 19 j).toInt ≤ 4 := h.1 19 j
theorem upZ19 {M : List Nat} {s0 sg x : Sg} {j : Nat} {v : Int32} (h : StC0 M s0 sg) (hk : 19 ∈ M) (e : x = up2 sg 19 j v) (h1 : 0 ≤ v.toInt) (h2 : v.toInt ≤ 4) : StC0 M s0 x := by rw [e]; exact h.up hk (by decide) h1 h2
theorem upC19 {M : List Nat} {s0 sg x : Sg} {j : Nat} {v : Int32} (h : StC M s0 sg) (hk : 19 ∈ M) (e : x = up2 sg 19 j v) (h1 : 0 ≤ v.toInt) (h2 : v.toInt ≤ 4) : StC M s0 x := by rw [e]; exact h.up hk (by decide) (by unfold dep; omega) h1 h2
theorem rdC20 {sg : Sg} (h : IC0 sg) {j : Nat} : (-1) ≤ (sg 20 j).toInt ∧ (sg 20 j).toInt ≤ 11 := h.1 20 j
theorem upZ20 {M : List Nat} {s0 sg x : Sg} {j : Nat} {v : Int32} (h : StC0 M s0 sg) (hk : 20 ∈ M) (e : x = up2 sg 20 j v) (h1 : (-1) ≤ v.toInt) (h2 : v.toInt ≤ 11) : StC0 M s0 x := by rw [e]; exact h.up hk (by decide) h1 h2
theorem upC20 {M : List Nat} {s0 sg x : Sg} {j : Nat} {v : Int32} (h : StC M s0 sg) (hk : 20 ∈ M) (e : x = up2 sg 20 j v) (h1 : (-1) ≤ v.toInt) (h2 : v.toInt ≤ 11) : StC M s0 x := by rw [e]; exact h.up hk (by decide) (by unfold dep; omega) h1 h2
theorem rdC21 {sg : Sg} (h : IC0 sg) {j : Nat} : 0 ≤ (sg 21 j).toInt ∧ (sg 21 j).toInt ≤ 4095 := h.1 21 j
theorem upZ21 {M : List Nat} {s0 sg x : Sg} {j : Nat} {v : Int32} (h : StC0 M s0 sg) (hk : 21 ∈ M) (e : x = up2 sg 21 j v) (h1 : 0 ≤ v.toInt) (h2 : v.toInt ≤ 4095) : StC0 M s0 x := by rw [e]; exact h.up hk (by decide) h1 h2
theorem upC21 {M : List Nat} {s0 sg x : Sg} {j : Nat} {v : Int32} (h : StC M s0 sg) (hk : 21 ∈ M) (e : x = up2 sg 21 j v) (h1 : 0 ≤ v.toInt) (h2 : v.toInt ≤ 4095) : StC M s0 x := by rw [e]; exact h.up hk (by decide) (by unfold dep; omega) h1 h2
theorem rdC22 {sg : Sg} (h : IC0 sg) {j : Nat} : 0 ≤ (sg 22 j).toInt ∧ (sg 22 j).toInt ≤ 4095 := h.1 22 j
theorem upZ22 {M : List Nat} {s0 sg x : Sg} {j : Nat} {v : Int32} (h : StC0 M s0 sg) (hk : 22 ∈ M) (e : x = up2 sg 22 j v) (h1 : 0 ≤ v.toInt) (h2 : v.toInt ≤ 4095) : StC0 M s0 x := by rw [e]; exact h.up hk (by decide) h1 h2
theorem upC22 {M : List Nat} {s0 sg x : Sg} {j : Nat} {v : Int32} (h : StC M s0 sg) (hk : 22 ∈ M) (e : x = up2 sg 22 j v) (h1 : 0 ≤ v.toInt) (h2 : v.toInt ≤ 4095) : StC M s0 x := by rw [e]; exact h.up hk (by decide) (by unfold dep; omega) h1 h2
theorem rdC23 {sg : Sg} (h : IC0 sg) {j : Nat} : 0 ≤ (sg 23 j).toInt ∧ (sg 23 j).toInt ≤ 1000000 := h.1 23 j
theorem upZ23 {M : List Nat} {s0 sg x : Sg} {j : Nat} {v : Int32} (h : StC0 M s0 sg) (hk : 23 ∈ M) (e : x = up2 sg 23 j v) (h1 : 0 ≤ v.toInt) (h2 : v.toInt ≤ 1000000) : StC0 M s0 x := by rw [e]; exact h.up hk (by decide) h1 h2
theorem upC23 {M : List Nat} {s0 sg x : Sg} {j : Nat} {v : Int32} (h : StC M s0 sg) (hk : 23 ∈ M) (e : x = up2 sg 23 j v) (h1 : 0 ≤ v.toInt) (h2 : v.toInt ≤ 1000000) : StC M s0 x := by rw [e]; exact h.up hk (by decide) (by unfold dep; omega) h1 h2
theorem rdC24 {sg : Sg} (h : IC0 sg) {j : Nat} : 0 ≤ (sg 24 j).toInt ∧ (sg 24 j).toInt ≤ 4095 := h.1 24 j
theorem upC24 {M : List Nat} {s0 sg x : Sg} {j : Nat} {v : Int32} (h : StC M s0 sg) (hk : 24 ∈ M) (e : x = up2 sg 24 j v) (h1 : 0 ≤ v.toInt) (h2 : v.toInt ≤ 4095) : StC M s0 x := by rw [e]; exact h.up hk (by decide) (by unfold dep; omega) h1 h2
theorem upC25 {M : List Nat} {s0 sg x : Sg} {j : Nat} {v : Int32} (h : StC M s0 sg) (hk : 25 ∈ M) (e : x = up2 sg 25 j v) : StC M s0 x := by rw [e]; exact h.up hk (by decide) (by unfold dep; omega) (lo32 v) (hi32 v)
theorem upC26 {M : List Nat} {s0 sg x : Sg} {j : Nat} {v : Int32} (h : StC M s0 sg) (hk : 26 ∈ M) (e : x = up2 sg 26 j v) : StC M s0 x := by rw [e]; exact h.up hk (by decide) (by unfold dep; omega) (lo32 v) (hi32 v)
theorem rdC27 {sg : Sg} (h : IC0 sg) {j : Nat} : 0 ≤ (sg 27 j).toInt ∧ (sg 27 j).toInt ≤ 4095 := h.1 27 j
theorem upC27 {M : List Nat} {s0 sg x : Sg} {j : Nat} {v : Int32} (h : StC M s0 sg) (hk : 27 ∈ M) (e : x = up2 sg 27 j v) (h1 : 0 ≤ v.toInt) (h2 : v.toInt ≤ 4095) : StC M s0 x := by rw [e]; exact h.up hk (by decide) (by unfold dep; omega) h1 h2
theorem rdC28 {sg : Sg} (h : IC0 sg) {j : Nat} : 0 ≤ (sg 28 j).toInt ∧ (sg 28 j).toInt ≤ 4095 := h.1 28 j
theorem upC28 {M : List Nat} {s0 sg x : Sg} {j : Nat} {v : Int32} (h : StC M s0 sg) (hk : 28 ∈ M) (e : x = up2 sg 28 j v) (h1 : 0 ≤ v.toInt) (h2 : v.toInt ≤ 4095) : StC M s0 x := by rw [e]; exact h.up hk (by decide) (by unfold dep; omega) h1 h2
theorem rdC29 {sg : Sg} (h : IC0 sg) {j : Nat} : 0 ≤ (sg 29 j).toInt ∧ (sg 29 j).toInt ≤ 4095 := h.1 29 j
theorem upC29 {M : List Nat} {s0 sg x : Sg} {j : Nat} {v : Int32} (h : StC M s0 sg) (hk : 29 ∈ M) (e : x = up2 sg 29 j v) (h1 : 0 ≤ v.toInt) (h2 : v.toInt ≤ 4095) : StC M s0 x := by rw [e]; exact h.up hk (by decide) (by unfold dep; omega) h1 h2
theorem rdC30 {sg : Sg} (h : IC0 sg) {j : Nat} : 0 ≤ (sg 30 j).toInt ∧ (sg 30 j).toInt ≤ 4095 := h.1 30 j
theorem upC30 {M : List Nat} {s0 sg x : Sg} {j : Nat} {v : Int32} (h : StC M s0 sg) (hk : 30 ∈ M) (e : x = up2 sg 30 j v) (h1 : 0 ≤ v.toInt) (h2 : v.toInt ≤ 4095) : StC M s0 x := by rw [e]; exact h.up hk (by decide) (by unfold dep; omega) h1 h2
theorem rdC31 {sg : Sg} (h : IC0 sg) {j : Nat} : 0 ≤ (sg 31 j).toInt ∧ (sg 31 j).toInt ≤ 11 := h.1 31 j
theorem upC31 {M : List Nat} {s0 sg x : Sg} {j : Nat} {v : Int32} (h : StC M s0 sg) (hk : 31 ∈ M) (e : x = up2 sg 31 j v) (h1 : 0 ≤ v.toInt) (h2 : v.toInt ≤ 11) : StC M s0 x := by rw [e]; exact h.up hk (by decide) (by unfold dep; omega) h1 h2
theorem rdC32 {sg : Sg} (h : IC0 sg) {j : Nat} : 0 ≤ (sg 32 j).toInt ∧ (sg 32 j).toInt ≤ 11 := h.1 32 j
theorem upC32 {M : List Nat} {s0 sg x : Sg} {j : Nat} {v : Int32} (h : StC M s0 sg) (hk : 32 ∈ M) (e : x = up2 sg 32 j v) (h1 : 0 ≤ v.toInt) (h2 : v.toInt ≤ 11) : StC M s0 x := by rw [e]; exact h.up hk (by decide) (by unfold dep; omega) h1 h2
theorem rdC33 {sg : Sg} (h : IC0 sg) {j : Nat} : 0 ≤ (sg 33 j).toInt ∧ (sg 33 j).toInt ≤ 11 := h.1 33 j
theorem upC33 {M : List Nat} {s0 sg x : Sg} {j : Nat} {v : Int32} (h : StC M s0 sg) (hk : 33 ∈ M) (e : x = up2 sg 33 j v) (h1 : 0 ≤ v.toInt) (h2 : v.toInt ≤ 11) : StC M s0 x := by rw [e]; exact h.up hk (by decide) (by unfold dep; omega) h1 h2
theorem upC34 {M : List Nat} {s0 sg x : Sg} {j : Nat} {v : Int32} (h : StC M s0 sg) (hk : 34 ∈ M) (e : x = up2 sg 34 j v) : StC M s0 x := by rw [e]; exact h.up hk (by decide) (by unfold dep; omega) (lo32 v) (hi32 v)
theorem upC35 {M : List Nat} {s0 sg x : Sg} {j : Nat} {v : Int32} (h : StC M s0 sg) (hk : 35 ∈ M) (e : x = up2 sg 35 j v) : StC M s0 x := by rw [e]; exact h.up hk (by decide) (by unfold dep; omega) (lo32 v) (hi32 v)
theorem rdC36 {sg : Sg} (h : IC0 sg) {j : Nat} : 0 ≤ (sg 36 j).toInt ∧ (sg 36 j).toInt ≤ 4095 := h.1 36 j
theorem upC36 {M : List Nat} {s0 sg x : Sg} {j : Nat} {v : Int32} (h : StC M s0 sg) (hk : 36 ∈ M) (e : x = up2 sg 36 j v) (h1 : 0 ≤ v.toInt) (h2 : v.toInt ≤ 4095) : StC M s0 x := by rw [e]; exact h.up hk (by decide) (by unfold dep; omega) h1 h2
theorem upC37 {M : List Nat} {s0 sg x : Sg} {j : Nat} {v : Int32} (h : StC M s0 sg) (hk : 37 ∈ M) (e : x = up2 sg 37 j v) : StC M s0 x := by rw [e]; exact h.up hk (by decide) (by unfold dep; omega) (lo32 v) (hi32 v)
theorem rdC38 {sg : Sg} (h : IC0 sg) {j : Nat} : 0 ≤ (sg 38 j).toInt ∧ (sg 38 j).toInt ≤ 12 := h.1 38 j
theorem upC38 {M : List Nat} {s0 sg x : Sg} {j : Nat} {v : Int32} (h : StC M s0 sg) (hk : 38 ∈ M) (e : x = up2 sg 38 j v) (h1 : 0 ≤ v.toInt) (h2 : v.toInt ≤ 12) : StC M s0 x := by rw [e]; exact h.up hk (by decide) (by unfold dep; omega) h1 h2
theorem rdC39 {sg : Sg} (h : IC0 sg) {j : Nat} : 0 ≤ (sg 39 j).toInt ∧ (sg 39 j).toInt ≤ 11 := h.1 39 j
theorem upC39 {M : List Nat} {s0 sg x : Sg} {j : Nat} {v : Int32} (h : StC M s0 sg) (hk : 39 ∈ M) (e : x = up2 sg 39 j v) (h1 : 0 ≤ v.toInt) (h2 : v.toInt ≤ 11) : StC M s0 x := by rw [e]; exact h.up hk (by decide) (by unfold dep; omega) h1 h2
theorem upC40 {M : List Nat} {s0 sg x : Sg} {j : Nat} {v : Int32} (h : StC M s0 sg) (hk : 40 ∈ M) (e : x = up2 sg 40 j v) : StC M s0 x := by rw [e]; exact h.up hk (by decide) (by unfold dep; omega) (lo32 v) (hi32 v)
theorem rdC41 {sg : Sg} (h : IC0 sg) {j : Nat} : 0 ≤ (sg 41 j).toInt ∧ (sg 41 j).toInt ≤ 4095 := h.1 41 j
theorem upC41 {M : List Nat} {s0 sg x : Sg} {j : Nat} {v : Int32} (h : StC M s0 sg) (hk : 41 ∈ M) (e : x = up2 sg 41 j v) (h1 : 0 ≤ v.toInt) (h2 : v.toInt ≤ 4095) : StC M s0 x := by rw [e]; exact h.up hk (by decide) (by unfold dep; omega) h1 h2
theorem rdC42 {sg : Sg} (h : IC0 sg) {j : Nat} : 0 ≤ (sg 42 j).toInt ∧ (sg 42 j).toInt ≤ 4095 := h.1 42 j
theorem upC42 {M : List Nat} {s0 sg x : Sg} {j : Nat} {v : Int32} (h : StC M s0 sg) (hk : 42 ∈ M) (e : x = up2 sg 42 j v) (h1 : 0 ≤ v.toInt) (h2 : v.toInt ≤ 4095) : StC M s0 x := by rw [e]; exact h.up hk (by decide) (by unfold dep; omega) h1 h2
theorem rdC43 {sg : Sg} (h : IC0 sg) {j : Nat} : 0 ≤ (sg 43 j).toInt ∧ (sg 43 j).toInt ≤ 4095 := h.1 43 j
theorem upC43 {M : List Nat} {s0 sg x : Sg} {j : Nat} {v : Int32} (h : StC M s0 sg) (hk : 43 ∈ M) (e : x = up2 sg 43 j v) (h1 : 0 ≤ v.toInt) (h2 : v.toInt ≤ 4095) : StC M s0 x := by rw [e]; exact h.up hk (by decide) (by unfold dep; omega) h1 h2
theorem rdC44 {sg : Sg} (h : IC0 sg) {j : Nat} : 0 ≤ (sg 44 j).toInt ∧ (sg 44 j).toInt ≤ 11 := h.1 44 j
theorem upC44 {M : List Nat} {s0 sg x : Sg} {j : Nat} {v : Int32} (h : StC M s0 sg) (hk : 44 ∈ M) (e : x = up2 sg 44 j v) (h1 : 0 ≤ v.toInt) (h2 : v.toInt ≤ 11) : StC M s0 x := by rw [e]; exact h.up hk (by decide) (by unfold dep; omega) h1 h2
theorem rdC45 {sg : Sg} (h : IC0 sg) {j : Nat} : 0 ≤ (sg 45 j).toInt ∧ (sg 45 j).toInt ≤ 4095 := h.1 45 j
theorem upC45 {M : List Nat} {s0 sg x : Sg} {j : Nat} {v : Int32} (h : StC M s0 sg) (hk : 45 ∈ M) (e : x = up2 sg 45 j v) (h1 : 0 ≤ v.toInt) (h2 : v.toInt ≤ 4095) : StC M s0 x := by rw [e]; exact h.up hk (by decide) (by unfold dep; omega) h1 h2
theorem rdC46 {sg : Sg} (h : IC0 sg) {j : Nat} : 0 ≤ (sg 46 j).toInt ∧ (sg 46 j).toInt ≤ 4095 := h.1 46 j
theorem upC46 {M : List Nat} {s0 sg x : Sg} {j : Nat} {v : Int32} (h : StC M s0 sg) (hk : 46 ∈ M) (e : x = up2 sg 46 j v) (h1 : 0 ≤ v.toInt) (h2 : v.toInt ≤ 4095) : StC M s0 x := by rw [e]; exact h.up hk (by decide) (by unfold dep; omega) h1 h2
theorem upC63 {M : List Nat} {s0 sg x : Sg} {j : Nat} {v : Int32} (h : StC M s0 sg) (hk : 63 ∈ M) (e : x = up2 sg 63 j v) : StC M s0 x := by rw [e]; exact h.up hk (by decide) (by unfold dep; omega) (lo32 v) (hi32 v)
theorem upC64 {M : List Nat} {s0 sg x : Sg} {j : Nat} {v : Int32} (h : StC M s0 sg) (hk : 64 ∈ M) (e : x = up2 sg 64 j v) : StC M s0 x := by rw [e]; exact h.up hk (by decide) (by unfold dep; omega) (lo32 v) (hi32 v)
theorem upC65 {M : List Nat} {s0 sg x : Sg} {j : Nat} {v : Int32} (h : StC M s0 sg) (hk : 65 ∈ M) (e : x = up2 sg 65 j v) : StC M s0 x := by rw [e]; exact h.up hk (by decide) (by unfold dep; omega) (lo32 v) (hi32 v)
theorem upC66 {M : List Nat} {s0 sg x : Sg} {j : Nat} {v : Int32} (h : StC M s0 sg) (hk : 66 ∈ M) (e : x = up2 sg 66 j v) : StC M s0 x := by rw [e]; exact h.up hk (by decide) (by unfold dep; omega) (lo32 v) (hi32 v)
theorem rdM0_2 {sg : Sg} {lg : Lg} (h : IM sg lg) : 0 ≤ (sg 0 2).toInt ∧ (sg 0 2).toInt ≤ 8 := h.1 0 2
theorem rdM0_4 {sg : Sg} {lg : Lg} (h : IM sg lg) : 0 ≤ (sg 0 4).toInt ∧ (sg 0 4).toInt ≤ 12 := h.1 0 4
theorem upM0_4 {M : List Nat} {s0 sg x : Sg} {l0 lg : Lg} {v : Int32} (h : StM M s0 l0 sg lg) (hk : 0 ∈ M) (e : x = up2 sg 0 4 v) (h1 : 0 ≤ v.toInt) (h2 : v.toInt ≤ 12) : StM M s0 l0 x lg := by rw [e]; exact h.up hk (by decide) (Or.inr (by decide)) h1 h2
theorem rdM0_7 {sg : Sg} {lg : Lg} (h : IM sg lg) : 0 ≤ (sg 0 7).toInt ∧ (sg 0 7).toInt ≤ 1 := h.1 0 7
theorem upM0_7 {M : List Nat} {s0 sg x : Sg} {l0 lg : Lg} {v : Int32} (h : StM M s0 l0 sg lg) (hk : 0 ∈ M) (e : x = up2 sg 0 7 v) (h1 : 0 ≤ v.toInt) (h2 : v.toInt ≤ 1) : StM M s0 l0 x lg := by rw [e]; exact h.up hk (by decide) (Or.inr (by decide)) h1 h2
theorem upM0_8 {M : List Nat} {s0 sg x : Sg} {l0 lg : Lg} {v : Int32} (h : StM M s0 l0 sg lg) (hk : 0 ∈ M) (e : x = up2 sg 0 8 v) : StM M s0 l0 x lg := by rw [e]; exact h.up hk (by decide) (Or.inr (by decide)) (lo32 v) (hi32 v)
theorem upM0_9 {M : List Nat} {s0 sg x : Sg} {l0 lg : Lg} {v : Int32} (h : StM M s0 l0 sg lg) (hk : 0 ∈ M) (e : x = up2 sg 0 9 v) : StM M s0 l0 x lg := by rw [e]; exact h.up hk (by decide) (Or.inr (by decide)) (lo32 v) (hi32 v)
theorem rdM0_17 {sg : Sg} {lg : Lg} (h : IM sg lg) : 0 ≤ (sg 0 17).toInt ∧ (sg 0 17).toInt ≤ 140 := h.1 0 17
theorem upM0_17 {M : List Nat} {s0 sg x : Sg} {l0 lg : Lg} {v : Int32} (h : StM M s0 l0 sg lg) (hk : 0 ∈ M) (e : x = up2 sg 0 17 v) (h1 : 0 ≤ v.toInt) (h2 : v.toInt ≤ 140) : StM M s0 l0 x lg := by rw [e]; exact h.up hk (by decide) (Or.inr (by decide)) h1 h2
theorem rdM1_0 {sg : Sg} {lg : Lg} (h : IM sg lg) : 0 ≤ (sg 1 0).toInt ∧ (sg 1 0).toInt ≤ 12 := h.1 1 0
theorem rdM3 {sg : Sg} {lg : Lg} (h : IM sg lg) {j : Nat} : 0 ≤ (sg 3 j).toInt ∧ (sg 3 j).toInt ≤ 11 := h.1 3 j
theorem upM3 {M : List Nat} {s0 sg x : Sg} {l0 lg : Lg} {j : Nat} {v : Int32} (h : StM M s0 l0 sg lg) (hk : 3 ∈ M) (e : x = up2 sg 3 j v) (h1 : 0 ≤ v.toInt) (h2 : v.toInt ≤ 11) : StM M s0 l0 x lg := by rw [e]; exact h.up hk (by decide) (Or.inl (by decide)) h1 h2
theorem rdM6 {sg : Sg} {lg : Lg} (h : IM sg lg) {j : Nat} : 0 ≤ (sg 6 j).toInt ∧ (sg 6 j).toInt ≤ 1 := h.1 6 j
theorem upM6 {M : List Nat} {s0 sg x : Sg} {l0 lg : Lg} {j : Nat} {v : Int32} (h : StM M s0 l0 sg lg) (hk : 6 ∈ M) (e : x = up2 sg 6 j v) (h1 : 0 ≤ v.toInt) (h2 : v.toInt ≤ 1) : StM M s0 l0 x lg := by rw [e]; exact h.up hk (by decide) (Or.inl (by decide)) h1 h2
theorem rdM7 {sg : Sg} {lg : Lg} (h : IM sg lg) {j : Nat} : 0 ≤ (sg 7 j).toInt ∧ (sg 7 j).toInt ≤ 11 := h.1 7 j
theorem upM7 {M : List Nat} {s0 sg x : Sg} {l0 lg : Lg} {j : Nat} {v : Int32} (h : StM M s0 l0 sg lg) (hk : 7 ∈ M) (e : x = up2 sg 7 j v) (h1 : 0 ≤ v.toInt) (h2 : v.toInt ≤ 11) : StM M s0 l0 x lg := by rw [e]; exact h.up hk (by decide) (Or.inl (by decide)) h1 h2
theorem rdM8 {sg : Sg} {lg : Lg} (h : IM sg lg) {j : Nat} : 0 ≤ (sg 8 j).toInt ∧ (sg 8 j).toInt ≤ 1 := h.1 8 j
theorem upM8 {M : List Nat} {s0 sg x : Sg} {l0 lg : Lg} {j : Nat} {v : Int32} (h : StM M s0 l0 sg lg) (hk : 8 ∈ M) (e : x = up2 sg 8 j v) (h1 : 0 ≤ v.toInt) (h2 : v.toInt ≤ 1) : StM M s0 l0 x lg := by rw [e]; exact h.up hk (by decide) (Or.inl (by decide)) h1 h2
theorem upM9 {M : List Nat} {s0 sg x : Sg} {l0 lg : Lg} {j : Nat} {v : Int32} (h : StM M s0 l0 sg lg) (hk : 9 ∈ M) (e : x = up2 sg 9 j v) : StM M s0 l0 x lg := by rw [e]; exact h.up hk (by decide) (Or.inl (by decide)) (lo32 v) (hi32 v)
theorem upM10 {M : List Nat} {s0 sg x : Sg} {l0 lg : Lg} {j : Nat} {v : Int32} (h : StM M s0 l0 sg lg) (hk : 10 ∈ M) (e : x = up2 sg 10 j v) : StM M s0 l0 x lg := by rw [e]; exact h.up hk (by decide) (Or.inl (by decide)) (lo32 v) (hi32 v)
theorem rdM11 {sg : Sg} {lg : Lg} (h : IM sg lg) {j : Nat} : 0 ≤ (sg 11 j).toInt ∧ (sg 11 j).toInt ≤ 11 := h.1 11 j
theorem upM11 {M : List Nat} {s0 sg x : Sg} {l0 lg : Lg} {j : Nat} {v : Int32} (h : StM M s0 l0 sg lg) (hk : 11 ∈ M) (e : x = up2 sg 11 j v) (h1 : 0 ≤ v.toInt) (h2 : v.toInt ≤ 11) : StM M s0 l0 x lg := by rw [e]; exact h.up hk (by decide) (Or.inl (by decide)) h1 h2
def PVC (M : List Nat) (s : Sg) : Sg → Prop := fun r => StC M s r
def PVC0 (M : List Nat) (s : Sg) : Sg → Prop := fun r => StC0 M s r
theorem mkPVC0 {M : List Nat} {s s1 : Sg} (h : StC0 M s s1) : PVC0 M s s1 := h
theorem bnd1_pvC0 {β : Type} {P : β → Prop} {M : List Nat} {s : Sg} {o : Option Sg} {k : Sg → Option β} (h : Ok (PVC0 M s) o) (h2 : ∀ (s1 : Sg) (_ : StC0 M s s1), Ok P (k s1)) : Ok P (bnd1 o k) := by
  obtain ⟨a, e, hq⟩ := h
  rw [e]
  exact h2 a hq
def PLC (M : List Nat) (s : Sg) : Int64 × Sg → Prop := fun r => StC M s r.2
def PIC (M : List Nat) (s : Sg) (lo hi : Int) : Int32 × Sg → Prop := fun r => StC M s r.2 ∧ lo ≤ r.1.toInt ∧ r.1.toInt ≤ hi
def PIXC (M : List Nat) (s : Sg) (lo hi : Int) (X : Int → Sg → Prop) : Int32 × Sg → Prop := fun r => StC M s r.2 ∧ lo ≤ r.1.toInt ∧ r.1.toInt ≤ hi ∧ X r.1.toInt r.2
theorem mkPIXC {M : List Nat} {s s1 : Sg} {v : Int32} {lo hi : Int} {X : Int → Sg → Prop} (h : StC M s s1) (h1 : lo ≤ v.toInt) (h2 : v.toInt ≤ hi) (h3 : X v.toInt s1) : PIXC M s lo hi X (v, s1) := ⟨h, h1, h2, h3⟩
theorem bnd2_pixC {β : Type} {P : β → Prop} {M : List Nat} {s : Sg} {lo hi : Int} {X : Int → Sg → Prop} {o : Option (Int32 × Sg)} {k : Int32 → Sg → Option β} (h : Ok (PIXC M s lo hi X) o) (h2 : ∀ (y : Int32) (s1 : Sg) (_ : StC M s s1) (_ : lo ≤ y.toInt) (_ : y.toInt ≤ hi) (_ : X y.toInt s1), Ok P (k y s1)) : Ok P (bnd2 o k) := by
  obtain ⟨a, e, hq⟩ := h
  rw [e]
  exact h2 a.1 a.2 hq.1 hq.2.1 hq.2.2.1 hq.2.2.2
def PUC (s : Sg) (lo hi : Int) : Int32 × Sg → Prop := fun r => r.2 = s ∧ lo ≤ r.1.toInt ∧ r.1.toInt ≤ hi
def PUlC (s : Sg) : Int64 × Sg → Prop := fun r => r.2 = s
def PUvC (s : Sg) : Sg → Prop := fun r => r = s
def PXC (s : Sg) (lo hi : Int) (X : Int → Prop) : Int32 × Sg → Prop := fun r => r.2 = s ∧ lo ≤ r.1.toInt ∧ r.1.toInt ≤ hi ∧ X r.1.toInt
theorem mkPVC {M : List Nat} {s s1 : Sg} (h : StC M s s1) : PVC M s (s1) := h
theorem mkPLC {M : List Nat} {s s1 : Sg} {v : Int64} (h : StC M s s1) : PLC M s (v, s1) := h
theorem mkPIC {M : List Nat} {s s1 : Sg} {v : Int32} {lo hi : Int} (h : StC M s s1) (h1 : lo ≤ v.toInt) (h2 : v.toInt ≤ hi) : PIC M s lo hi (v, s1) := ⟨h, h1, h2⟩
theorem mkPUC {s : Sg} {v : Int32} {lo hi : Int} (h1 : lo ≤ v.toInt) (h2 : v.toInt ≤ hi) : PUC s lo hi (v, s) := ⟨rfl, h1, h2⟩
theorem mkPUlC {s : Sg} {v : Int64} : PUlC s (v, s) := rfl
theorem mkPUvC {s : Sg} : PUvC s (s) := rfl
theorem mkPXC {s : Sg} {v : Int32} {lo hi : Int} {X : Int → Prop} (h1 : lo ≤ v.toInt) (h2 : v.toInt ≤ hi) (h3 : X v.toInt) : PXC s lo hi X (v, s) := ⟨rfl, h1, h2, h3⟩
def PVXC (M : List Nat) (s : Sg) (X : Sg → Prop) : Sg → Prop := fun r => StC M s r ∧ X r
theorem mkPVXC {M : List Nat} {s s1 : Sg} {X : Sg → Prop} (h : StC M s s1) (h2 : X s1) : PVXC M s X s1 := ⟨h, h2⟩
theorem bnd1_pvxC {β : Type} {P : β → Prop} {M : List Nat} {s : Sg} {X : Sg → Prop} {o : Option Sg} {k : Sg → Option β} (h : Ok (PVXC M s X) o) (h2 : ∀ (s1 : Sg) (_ : StC M s s1) (_ : X s1), Ok P (k s1)) : Ok P (bnd1 o k) := by
  obtain ⟨a, e, hq⟩ := h
  rw [e]
  exact h2 a hq.1 hq.2
theorem bnd2_piC {β : Type} {P : β → Prop} {M : List Nat} {s : Sg} {lo hi : Int} {o : Option (Int32 × Sg)} {k : Int32 → Sg → Option β} (h : Ok (PIC M s lo hi) o) (h2 : ∀ (y : Int32) (s1 : Sg) (_ : StC M s s1) (_ : lo ≤ y.toInt) (_ : y.toInt ≤ hi), Ok P (k y s1)) : Ok P (bnd2 o k) := by
  obtain ⟨a, e, hq⟩ := h
  rw [e]
  exact h2 a.1 a.2 hq.1 hq.2.1 hq.2.2
theorem bnd2_plC {β : Type} {P : β → Prop} {M : List Nat} {s : Sg} {o : Option (Int64 × Sg)} {k : Int64 → Sg → Option β} (h : Ok (PLC M s) o) (h2 : ∀ (y : Int64) (s1 : Sg) (_ : StC M s s1), Ok P (k y s1)) : Ok P (bnd2 o k) := by
  obtain ⟨a, e, hq⟩ := h
  rw [e]
  exact h2 a.1 a.2 hq
theorem bnd1_pvC {β : Type} {P : β → Prop} {M : List Nat} {s : Sg} {o : Option (Sg)} {k : Sg → Option β} (h : Ok (PVC M s) o) (h2 : ∀ (s1 : Sg) (_ : StC M s s1), Ok P (k s1)) : Ok P (bnd1 o k) := by
  obtain ⟨a, e, hq⟩ := h
  rw [e]
  exact h2 a hq
theorem bnd2_puC {β : Type} {P : β → Prop} {s : Sg} {lo hi : Int} {o : Option (Int32 × Sg)} {k : Int32 → Sg → Option β} (h : Ok (PUC s lo hi) o) (h2 : ∀ (y : Int32) (_ : lo ≤ y.toInt) (_ : y.toInt ≤ hi), Ok P (k y s)) : Ok P (bnd2 o k) := by
  obtain ⟨a, e, hq⟩ := h
  rw [e]
  obtain ⟨y, z⟩ := a
  obtain ⟨e2, q⟩ := hq
  replace e2 : z = s := e2
  subst e2
  exact h2 y q.1 q.2
theorem bnd2_pxC {β : Type} {P : β → Prop} {s : Sg} {lo hi : Int} {X : Int → Prop} {o : Option (Int32 × Sg)} {k : Int32 → Sg → Option β} (h : Ok (PXC s lo hi X) o) (h2 : ∀ (y : Int32) (_ : lo ≤ y.toInt) (_ : y.toInt ≤ hi) (_ : X y.toInt), Ok P (k y s)) : Ok P (bnd2 o k) := by
  obtain ⟨a, e, hq⟩ := h
  rw [e]
  obtain ⟨y, z⟩ := a
  obtain ⟨e2, q⟩ := hq
  replace e2 : z = s := e2
  subst e2
  exact h2 y q.1 q.2.1 q.2.2
theorem bnd2_pulC {β : Type} {P : β → Prop} {s : Sg} {o : Option (Int64 × Sg)} {k : Int64 → Sg → Option β} (h : Ok (PUlC s) o) (h2 : ∀ (y : Int64), Ok P (k y s)) : Ok P (bnd2 o k) := by
  obtain ⟨a, e, hq⟩ := h
  rw [e]
  obtain ⟨y, z⟩ := a
  replace hq : z = s := hq
  subst hq
  exact h2 y
theorem bnd1_puvC {β : Type} {P : β → Prop} {s : Sg} {o : Option (Sg)} {k : Sg → Option β} (h : Ok (PUvC s) o) (h2 : Ok P (k s)) : Ok P (bnd1 o k) := by
  obtain ⟨a, e, hq⟩ := h
  rw [e]
  replace hq : a = s := hq
  subst hq
  exact h2
def PVM (M : List Nat) (s : Sg) (l : Lg) : Sg × Lg → Prop := fun r => StM M s l r.1 r.2
def PLM (M : List Nat) (s : Sg) (l : Lg) : Int64 × Sg × Lg → Prop := fun r => StM M s l r.2.1 r.2.2
def PIM (M : List Nat) (s : Sg) (l : Lg) (lo hi : Int) : Int32 × Sg × Lg → Prop := fun r => StM M s l r.2.1 r.2.2 ∧ lo ≤ r.1.toInt ∧ r.1.toInt ≤ hi
def PIXM (M : List Nat) (s : Sg) (l : Lg) (lo hi : Int) (X : Int → Sg → Prop) : Int32 × Sg × Lg → Prop := fun r => StM M s l r.2.1 r.2.2 ∧ lo ≤ r.1.toInt ∧ r.1.toInt ≤ hi ∧ X r.1.toInt r.2.1
theorem mkPIXM {M : List Nat} {s s1 : Sg} {l l1 : Lg} {v : Int32} {lo hi : Int} {X : Int → Sg → Prop} (h : StM M s l s1 l1) (h1 : lo ≤ v.toInt) (h2 : v.toInt ≤ hi) (h3 : X v.toInt s1) : PIXM M s l lo hi X (v, s1, l1) := ⟨h, h1, h2, h3⟩
theorem bnd3_pixM {β : Type} {P : β → Prop} {M : List Nat} {s : Sg} {l : Lg} {lo hi : Int} {X : Int → Sg → Prop} {o : Option (Int32 × Sg × Lg)} {k : Int32 → Sg → Lg → Option β} (h : Ok (PIXM M s l lo hi X) o) (h2 : ∀ (y : Int32) (s1 : Sg) (l1 : Lg) (_ : StM M s l s1 l1) (_ : lo ≤ y.toInt) (_ : y.toInt ≤ hi) (_ : X y.toInt s1), Ok P (k y s1 l1)) : Ok P (bnd3 o k) := by
  obtain ⟨a, e, hq⟩ := h
  rw [e]
  exact h2 a.1 a.2.1 a.2.2 hq.1 hq.2.1 hq.2.2.1 hq.2.2.2
def PUM (s : Sg) (l : Lg) (lo hi : Int) : Int32 × Sg × Lg → Prop := fun r => r.2 = (s, l) ∧ lo ≤ r.1.toInt ∧ r.1.toInt ≤ hi
def PUlM (s : Sg) (l : Lg) : Int64 × Sg × Lg → Prop := fun r => r.2 = (s, l)
def PUvM (s : Sg) (l : Lg) : Sg × Lg → Prop := fun r => r = (s, l)
def PXM (s : Sg) (l : Lg) (lo hi : Int) (X : Int → Prop) : Int32 × Sg × Lg → Prop := fun r => r.2 = (s, l) ∧ lo ≤ r.1.toInt ∧ r.1.toInt ≤ hi ∧ X r.1.toInt
theorem mkPVM {M : List Nat} {s s1 : Sg} {l l1 : Lg} (h : StM M s l s1 l1) : PVM M s l (s1, l1) := h
theorem mkPLM {M : List Nat} {s s1 : Sg} {l l1 : Lg} {v : Int64} (h : StM M s l s1 l1) : PLM M s l (v, s1, l1) := h
theorem mkPIM {M : List Nat} {s s1 : Sg} {l l1 : Lg} {v : Int32} {lo hi : Int} (h : StM M s l s1 l1) (h1 : lo ≤ v.toInt) (h2 : v.toInt ≤ hi) : PIM M s l lo hi (v, s1, l1) := ⟨h, h1, h2⟩
theorem mkPUM {s : Sg} {l : Lg} {v : Int32} {lo hi : Int} (h1 : lo ≤ v.toInt) (h2 : v.toInt ≤ hi) : PUM s l lo hi (v, s, l) := ⟨rfl, h1, h2⟩
theorem mkPUlM {s : Sg} {l : Lg} {v : Int64} : PUlM s l (v, s, l) := rfl
theorem mkPUvM {s : Sg} {l : Lg} : PUvM s l (s, l) := rfl
theorem mkPXM {s : Sg} {l : Lg} {v : Int32} {lo hi : Int} {X : Int → Prop} (h1 : lo ≤ v.toInt) (h2 : v.toInt ≤ hi) (h3 : X v.toInt) : PXM s l lo hi X (v, s, l) := ⟨rfl, h1, h2, h3⟩
def PVXM (M : List Nat) (s : Sg) (l : Lg) (X : Sg → Prop) : Sg × Lg → Prop := fun r => StM M s l r.1 r.2 ∧ X r.1
theorem mkPVXM {M : List Nat} {s s1 : Sg} {l l1 : Lg} {X : Sg → Prop} (h : StM M s l s1 l1) (h2 : X s1) : PVXM M s l X (s1, l1) := ⟨h, h2⟩
theorem bnd2_pvxM {β : Type} {P : β → Prop} {M : List Nat} {s : Sg} {l : Lg} {X : Sg → Prop} {o : Option (Sg × Lg)} {k : Sg → Lg → Option β} (h : Ok (PVXM M s l X) o) (h2 : ∀ (s1 : Sg) (l1 : Lg) (_ : StM M s l s1 l1) (_ : X s1), Ok P (k s1 l1)) : Ok P (bnd2 o k) := by
  obtain ⟨a, e, hq⟩ := h
  rw [e]
  exact h2 a.1 a.2 hq.1 hq.2
theorem bnd3_piM {β : Type} {P : β → Prop} {M : List Nat} {s : Sg} {l : Lg} {lo hi : Int} {o : Option (Int32 × Sg × Lg)} {k : Int32 → Sg → Lg → Option β} (h : Ok (PIM M s l lo hi) o) (h2 : ∀ (y : Int32) (s1 : Sg) (l1 : Lg) (_ : StM M s l s1 l1) (_ : lo ≤ y.toInt) (_ : y.toInt ≤ hi), Ok P (k y s1 l1)) : Ok P (bnd3 o k) := by
  obtain ⟨a, e, hq⟩ := h
  rw [e]
  exact h2 a.1 a.2.1 a.2.2 hq.1 hq.2.1 hq.2.2
theorem bnd3_plM {β : Type} {P : β → Prop} {M : List Nat} {s : Sg} {l : Lg} {o : Option (Int64 × Sg × Lg)} {k : Int64 → Sg → Lg → Option β} (h : Ok (PLM M s l) o) (h2 : ∀ (y : Int64) (s1 : Sg) (l1 : Lg) (_ : StM M s l s1 l1), Ok P (k y s1 l1)) : Ok P (bnd3 o k) := by
  obtain ⟨a, e, hq⟩ := h
  rw [e]
  exact h2 a.1 a.2.1 a.2.2 hq
theorem bnd2_pvM {β : Type} {P : β → Prop} {M : List Nat} {s : Sg} {l : Lg} {o : Option (Sg × Lg)} {k : Sg → Lg → Option β} (h : Ok (PVM M s l) o) (h2 : ∀ (s1 : Sg) (l1 : Lg) (_ : StM M s l s1 l1), Ok P (k s1 l1)) : Ok P (bnd2 o k) := by
  obtain ⟨a, e, hq⟩ := h
  rw [e]
  exact h2 a.1 a.2 hq
theorem bnd3_puM {β : Type} {P : β → Prop} {s : Sg} {l : Lg} {lo hi : Int} {o : Option (Int32 × Sg × Lg)} {k : Int32 → Sg → Lg → Option β} (h : Ok (PUM s l lo hi) o) (h2 : ∀ (y : Int32) (_ : lo ≤ y.toInt) (_ : y.toInt ≤ hi), Ok P (k y s l)) : Ok P (bnd3 o k) := by
  obtain ⟨a, e, hq⟩ := h
  rw [e]
  obtain ⟨y, z⟩ := a
  obtain ⟨e2, q⟩ := hq
  replace e2 : z = (s, l) := e2
  subst e2
  exact h2 y q.1 q.2
theorem bnd3_pxM {β : Type} {P : β → Prop} {s : Sg} {l : Lg} {lo hi : Int} {X : Int → Prop} {o : Option (Int32 × Sg × Lg)} {k : Int32 → Sg → Lg → Option β} (h : Ok (PXM s l lo hi X) o) (h2 : ∀ (y : Int32) (_ : lo ≤ y.toInt) (_ : y.toInt ≤ hi) (_ : X y.toInt), Ok P (k y s l)) : Ok P (bnd3 o k) := by
  obtain ⟨a, e, hq⟩ := h
  rw [e]
  obtain ⟨y, z⟩ := a
  obtain ⟨e2, q⟩ := hq
  replace e2 : z = (s, l) := e2
  subst e2
  exact h2 y q.1 q.2.1 q.2.2
theorem bnd3_pulM {β : Type} {P : β → Prop} {s : Sg} {l : Lg} {o : Option (Int64 × Sg × Lg)} {k : Int64 → Sg → Lg → Option β} (h : Ok (PUlM s l) o) (h2 : ∀ (y : Int64), Ok P (k y s l)) : Ok P (bnd3 o k) := by
  obtain ⟨a, e, hq⟩ := h
  rw [e]
  obtain ⟨y, z⟩ := a
  replace hq : z = (s, l) := hq
  subst hq
  exact h2 y
theorem bnd2_puvM {β : Type} {P : β → Prop} {s : Sg} {l : Lg} {o : Option (Sg × Lg)} {k : Sg → Lg → Option β} (h : Ok (PUvM s l) o) (h2 : Ok P (k s l)) : Ok P (bnd2 o k) := by
  obtain ⟨a, e, hq⟩ := h
  rw [e]
  replace hq : a = (s, l) := hq
  subst hq
  exact h2
theorem pw_pos (sg : Sg) : 1 ≤ pw sg := by
  have : 0 < 2 ^ (sg 3 2).toInt.toNat := Nat.pow_pos (by decide)
  rw [pw_is]
  omega
theorem pw_le {sg : Sg} (h : IC0 sg) : pw sg ≤ 4096 := by
  have h1 := rdC3_2 h
  have h2 : 2 ^ (sg 3 2).toInt.toNat ≤ 2 ^ 12 := Nat.pow_le_pow_right (by decide) (by omega)
  have h3 : (2 ^ 12 : Nat) = 4096 := by decide
  rw [pw_is]
  omega
theorem or_pw {sg : Sg} {a v : Int32} (h : (sg 3 2).toInt ≤ 12) (a0 : 0 ≤ a.toInt) (a1 : a.toInt < pw sg) (v0 : 0 ≤ v.toInt) (v1 : v.toInt < (sg 3 2).toInt) : (a ||| ((1 : Int32) <<< (v &&& 31))).toInt < pw sg := by
  have h1 := shl_is (v := v) v0 (by omega)
  have h2 : 2 ^ v.toInt.toNat < 2 ^ (sg 3 2).toInt.toNat := Nat.pow_lt_pow_right (by decide) (by omega)
  have h4 : 2 ^ (sg 3 2).toInt.toNat ≤ 2 ^ 12 := Nat.pow_le_pow_right (by decide) (by omega)
  have h5 : (2 ^ 12 : Nat) = 4096 := by decide
  have h6 : 0 < 2 ^ v.toInt.toNat := Nat.pow_pos (by decide)
  have h3 := or_i (a := a) (b := (1 : Int32) <<< (v &&& 31)) (sg 3 2).toInt.toNat (pw sg) (pw_is sg).symm (by rw [pw_is]; omega) a0 a1 (by omega) (by rw [pw_is]; omega)
  exact h3.2
/-- what is left of a set, after so many places -/
def lft (v5 v6 : Int32) (sg : Sg) : Prop := v6.toInt * ((2 ^ v5.toInt.toNat : Nat) : Int) < pw sg
theorem lft_0 {v5 v6 : Int32} {sg : Sg} (h : v5.toInt = 0) (h6 : v6.toInt < pw sg) : lft v5 v6 sg := by
  unfold lft
  rw [h]
  show v6.toInt * 1 < pw sg
  omega
theorem lft_lt {v5 v6 : Int32} {sg : Sg} (h : lft v5 v6 sg) (h6 : 1 ≤ v6.toInt) (h5 : 0 ≤ v5.toInt) (hs : 0 ≤ (sg 3 2).toInt) : v5.toInt < (sg 3 2).toInt := by
  unfold lft at h
  rw [pw_is] at h
  have h1 : ((2 ^ v5.toInt.toNat : Nat) : Int) ≤ v6.toInt * ((2 ^ v5.toInt.toNat : Nat) : Int) := by
    have := Int.mul_le_mul_of_nonneg_right h6 (Int.natCast_nonneg (2 ^ v5.toInt.toNat))
    omega
  have h2 : 2 ^ v5.toInt.toNat < 2 ^ (sg 3 2).toInt.toNat := by omega
  have h3 := (Nat.pow_lt_pow_iff_right (a := 2) (by decide)).mp h2
  omega
theorem shr1 (v : Int32) : (v >>> ((1 : Int32) &&& 31)).toInt = v.toInt / 2 := by
  have h1 : (v >>> ((1 : Int32) &&& 31)).toInt = v.toInt >>> (((1 : Int32) &&& 31).toBitVec.smod 32).toNat := by
    show (v >>> ((1 : Int32) &&& 31)).toBitVec.toInt = _
    rw [Int32.toBitVec_shiftRight, BitVec.toInt_sshiftRight']
    rfl
  rw [h1, show (((1 : Int32) &&& 31).toBitVec.smod 32).toNat = 1 by decide, Int.shiftRight_eq_div_pow]
  rfl
theorem lft_next {v5 v6 x1 x2 : Int32} {sg : Sg} (h : lft v5 v6 sg) (h5 : 0 ≤ v5.toInt) (h5h : v5.toInt ≤ 11) (h6 : 0 ≤ v6.toInt) (e1 : x1.toInt = v5.toInt + 1) (e2 : x2.toInt = (v6 >>> ((1 : Int32) &&& 31)).toInt) : lft x1 x2 sg := by
  rw [shr1] at e2
  unfold lft at h ⊢
  rw [e2, show x1.toInt.toNat = v5.toInt.toNat + 1 by omega, Nat.pow_succ]
  have h2 : v6.toInt / 2 * 2 ≤ v6.toInt := by omega
  have h3 := Int.mul_le_mul_of_nonneg_right h2 (Int.natCast_nonneg (2 ^ v5.toInt.toNat))
  have h4 : v6.toInt / 2 * ((2 ^ v5.toInt.toNat * 2 : Nat) : Int) = v6.toInt / 2 * 2 * ((2 ^ v5.toInt.toNat : Nat) : Int) := by
    rw [Int.natCast_mul, Int.mul_assoc]
    congr 1
    exact Int.mul_comm _ _
  omega
theorem shr_all : ∀ n : Nat, n < 31 → ((Int32.ofNat n &&& 31).toBitVec.smod 32).toNat = n := by decide +kernel
theorem shr_is {a v : Int32} (h0 : 0 ≤ v.toInt) (h1 : v.toInt ≤ 30) : (a >>> (v &&& 31)).toInt = a.toInt / ((2 ^ v.toInt.toNat : Nat) : Int) := by
  have h2 := shr_all v.toInt.toNat (by omega)
  rw [← of_i h0] at h2
  have h3 : (a >>> (v &&& 31)).toInt = a.toInt >>> ((v &&& 31).toBitVec.smod 32).toNat := by
    show (a >>> (v &&& 31)).toBitVec.toInt = _
    rw [Int32.toBitVec_shiftRight, BitVec.toInt_sshiftRight']
    rfl
  rw [h3, h2, Int.shiftRight_eq_div_pow]
theorem shr_lt {sg : Sg} {a v : Int32} (h : 0 < (a >>> (v &&& 31)).toInt) (a0 : 0 ≤ a.toInt) (a1 : a.toInt < pw sg) (v0 : 0 ≤ v.toInt) (v1 : v.toInt ≤ 30) (hs : 0 ≤ (sg 3 2).toInt) : v.toInt < (sg 3 2).toInt := by
  rw [shr_is v0 v1] at h
  rw [pw_is] at a1
  have h1 : ((2 ^ v.toInt.toNat : Nat) : Int) ≤ a.toInt := by
    refine Decidable.byContradiction fun hn => ?_
    rw [Int.ediv_eq_zero_of_lt a0 (by omega)] at h
    exact absurd h (by decide)
  have h2 : 2 ^ v.toInt.toNat < 2 ^ (sg 3 2).toInt.toNat := by omega
  have h3 := (Nat.pow_lt_pow_iff_right (a := 2) (by decide)).mp h2
  omega
/-! how many -/
def cn (p : Nat → Bool) : Nat → Nat
  | 0 => 0
  | n + 1 => cn p n + (if p n then 1 else 0)
theorem cn_le {p q : Nat → Bool} : ∀ n, (∀ j, j < n → p j = true → q j = true) → cn p n ≤ cn q n
  | 0, _ => Nat.le_refl _
  | n + 1, h => by
    have h1 := cn_le n (fun j hj => h j (by omega))
    have h2 := h n (by omega)
    unfold cn
    cases hp : p n
    · simp; omega
    · rw [h2 hp]; simp; omega
theorem cn_lt {p q : Nat → Bool} {j0 : Nat} : ∀ n, (∀ j, j < n → p j = true → q j = true) → j0 < n → q j0 = true → p j0 = false → cn p n < cn q n
  | 0, _, h0, _, _ => absurd h0 (Nat.not_lt_zero _)
  | n + 1, h, h0, hq, hp => by
    have h2 := h n (by omega)
    unfold cn
    by_cases e : j0 = n
    · subst e
      have h1 := cn_le (p := p) (q := q) j0 (fun j hj => h j (by omega))
      rw [hp, hq]; simp; omega
    · have h1 := cn_lt n (fun j hj => h j (by omega)) (by omega) hq hp
      cases hp' : p n
      · simp; omega
      · rw [h2 hp']; simp; omega
theorem cn_max (p : Nat → Bool) : ∀ n, cn p n ≤ n
  | 0 => Nat.le_refl _
  | n + 1 => by
    have h1 := cn_max p n
    unfold cn
    split <;> omega
theorem zr_ex (sg : Sg) : ∃ N : Int, N = (cn (fun j => decide (sg 6 j = 0)) 144 : Nat) := ⟨_, rfl⟩
noncomputable def zr (sg : Sg) : Int := Classical.choose (zr_ex sg)
theorem zr_is (sg : Sg) : zr sg = (cn (fun j => decide (sg 6 j = 0)) 144 : Nat) := Classical.choose_spec (zr_ex sg)
theorem zr_nn (sg : Sg) : 0 ≤ zr sg := by rw [zr_is]; omega
theorem zr_mx (sg : Sg) : zr sg ≤ 144 := by
  have := cn_max (fun j => decide (sg 6 j = 0)) 144
  rw [zr_is]; omega
theorem zr_cg {sg sg' : Sg} (h : sg' 6 = sg 6) : zr sg' = zr sg := by rw [zr_is, zr_is, h]
theorem zr_up {sg sg5 : Sg} {E x : Int32} (e : sg5 = up2 sg 6 E.toNatClampNeg ((1 : Int32) &&& 1)) (h : (sg 6 x.toNatClampNeg).toInt = 0) (hx : x.toInt = E.toInt) (h0 : 0 ≤ E.toInt) (h1 : E.toInt < 144) : zr sg5 + 1 ≤ zr sg := by
  have ex : x = E := Int32.toInt_inj.mp hx
  subst ex
  have hc := cl_i h0
  have hz : sg 6 x.toNatClampNeg = 0 := Int32.toInt_inj.mp (by rw [h]; decide)
  rw [zr_is, zr_is]
  have := cn_lt (p := fun j => decide (sg5 6 j = 0)) (q := fun j => decide (sg 6 j = 0)) (j0 := x.toNatClampNeg) 144 (fun j hj hp => ?_) (by omega) (by simp [hz]) (by simp [e, up2_is])
  · omega
  · simp only [decide_eq_true_eq] at hp ⊢
    rw [e, up2_is] at hp
    by_cases c : 6 = 6 ∧ j = x.toNatClampNeg
    · rw [if_pos c] at hp; exact absurd hp (by decide)
    · rw [if_neg c] at hp; exact hp
theorem un_ex (sg : Sg) : ∃ N : Int, N = (cn (fun j => decide ((sg 9 j).toInt < 0)) 12 : Nat) := ⟨_, rfl⟩
noncomputable def un (sg : Sg) : Int := Classical.choose (un_ex sg)
theorem un_is (sg : Sg) : un sg = (cn (fun j => decide ((sg 9 j).toInt < 0)) 12 : Nat) := Classical.choose_spec (un_ex sg)
theorem un_nn (sg : Sg) : 0 ≤ un sg := by rw [un_is]; omega
theorem un_mx (sg : Sg) : un sg ≤ 12 := by
  have := cn_max (fun j => decide ((sg 9 j).toInt < 0)) 12
  rw [un_is]; omega
theorem un_cg {sg sg' : Sg} (h : sg' 9 = sg 9) : un sg' = un sg := by rw [un_is, un_is, h]
/-- a group is set, or stays -/
theorem un_le {sg sg' : Sg} {j : Nat} {v : Int32} (e : sg' = up2 sg 9 j v) (h : 0 ≤ v.toInt ∨ v.toInt = (sg 9 j).toInt) : un sg' ≤ un sg := by
  rw [un_is, un_is]
  have := cn_le (p := fun j => decide ((sg' 9 j).toInt < 0)) (q := fun j => decide ((sg 9 j).toInt < 0)) 12 (fun i hi hp => ?_)
  · omega
  · simp only [decide_eq_true_eq] at hp ⊢
    rw [e, up2_is] at hp
    by_cases c : 9 = 9 ∧ i = j
    · rw [if_pos c] at hp; rw [c.2]; omega
    · rw [if_neg c] at hp; exact hp
theorem un_lt {sg sg' : Sg} {j : Nat} {v : Int32} (e : sg' = up2 sg 9 j v) (h : 0 ≤ v.toInt) (h2 : (sg 9 j).toInt < 0) (hj : j < 12) : un sg' + 1 ≤ un sg := by
  rw [un_is, un_is]
  have := cn_lt (p := fun j => decide ((sg' 9 j).toInt < 0)) (q := fun j => decide ((sg 9 j).toInt < 0)) (j0 := j) 12 (fun i hi hp => ?_) hj (by simp [h2]) (by simp [e, up2_is]; omega)
  · omega
  · simp only [decide_eq_true_eq] at hp ⊢
    rw [e, up2_is] at hp
    by_cases c : 9 = 9 ∧ i = j
    · rw [if_pos c] at hp; omega
    · rw [if_neg c] at hp; exact hp
/-- who reaches himself -/
def dg (sg : Sg) (n : Int) : Prop := ∀ h : Nat, h < 12 → (h : Int) < n → (sg 8 (13 * h)).toInt = 1
def dg1 (sg : Sg) (v1 v2 : Int32) : Prop := dg sg v1.toInt ∧ (v2.toInt ≤ v1.toInt ∨ (sg 8 (13 * v1.toNatClampNeg)).toInt = 1)
theorem dg_cg {sg sg' : Sg} {n : Int} (e : sg' 8 = sg 8) (h : dg sg n) : dg sg' n := fun x a b => by rw [e]; exact h x a b
theorem and1_i {w : Int32} (h : w.toInt = 1) : (w &&& 1).toInt = 1 := by
  have : w = 1 := Int32.toInt_inj.mp (by rw [h]; decide)
  rw [this]; decide
theorem dg1_up {sg sg2 : Sg} {v1 v2 w0 w1 x3 : Int32} (h : dg1 sg v1 v2) (e : sg2 = up2 sg 8 w1.toNatClampNeg (w0 &&& 1)) (a0 : 0 ≤ v1.toInt) (a1 : v1.toInt ≤ 11) (b0 : 0 ≤ v2.toInt) (b1 : v2.toInt ≤ 11) (hw : w1.toInt = 12 * v1.toInt + v2.toInt) (hv : v1.toInt ≠ v2.toInt ∨ w0.toInt = 1) (hx : x3.toInt = v2.toInt + 1) : dg1 sg2 v1 x3 := by
  have c1 := cl_i a0
  have c2 := cl_i (i := w1) (by omega)
  refine ⟨fun x p q => ?_, ?_⟩
  · rw [e, up2_is, if_neg (by omega)]; exact h.1 x p q
  · by_cases z : v1.toInt = v2.toInt
    · right
      rw [e, up2_is, if_pos (by omega)]
      exact and1_i (by omega)
    · rcases h.2 with y | y
      · left; omega
      · right
        rw [e, up2_is, if_neg (by omega)]; exact y
theorem dg_next {sg : Sg} {v1 v2 x2 : Int32} (h : dg1 sg v1 v2) (a0 : 0 ≤ v1.toInt) (b : v1.toInt < v2.toInt) (hx : x2.toInt = v1.toInt + 1) : dg sg x2.toInt := by
  have c1 := cl_i a0
  intro x p q
  by_cases z : (x : Int) = v1.toInt
  · have z2 : x = v1.toNatClampNeg := by omega
    rw [z2]
    rcases h.2 with y | y
    · omega
    · exact y
  · exact h.1 x p (by omega)
theorem dg_up {sg sg2 : Sg} {w0 w1 : Int32} (h : dg sg 12) (e : sg2 = up2 sg 8 w1.toNatClampNeg (w0 &&& 1)) (hw : w0.toInt = 1 ∨ (sg 8 w1.toNatClampNeg).toInt = 0) : dg sg2 12 := by
  intro x p q
  rw [e, up2_is]
  by_cases z : 8 = 8 ∧ 13 * x = w1.toNatClampNeg
  · rw [if_pos z]
    rcases hw with y | y
    · exact and1_i y
    · have := h x p q
      rw [z.2] at this
      omega
  · rw [if_neg z]; exact h x p q
/-- a hen that counts, in the reference -/
def mcnt (S : Nat → Int32) (a : Int32) : Prop := 0 ≤ a.toInt ∧ a.toInt < (S 0).toInt ∧ ¬ (S (1 + a.toNatClampNeg) = 4 ∧ ¬ S (25 + a.toNatClampNeg) = 1)

abbrev MX11_isKind : List Nat := []
abbrev MX11_isOther : List Nat := []
abbrev MX11_mayAskFor : List Nat := []
abbrev MX1_step : List Nat := [1, 2]
abbrev MX1_keepNewHen : List Nat := [1, 2, 47, 48, 49, 50, 51, 52, 53, 54]
abbrev MX2_renewPen : List Nat := [14, 15]
abbrev MX2_addHen : List Nat := [1, 11, 12, 13, 14, 15]
abbrev MX11_hen : List Nat := [1, 2, 11, 12, 13, 14, 15, 47, 48, 49, 50, 51, 52, 53, 54]
abbrev MX2_has : List Nat := []
abbrev MX0_save : List Nat := [47, 48, 49, 50, 51, 52, 53, 54, 55, 56, 57, 58, 59, 60, 61, 62]
abbrev MX1_keepHen : List Nat := [1, 2, 47, 48, 49, 50, 51, 52, 53, 54, 55, 56, 57, 58, 59, 60, 61, 62]
abbrev MX11_ask : List Nat := [1, 2, 12, 47, 48, 49, 50, 51, 52, 53, 54, 55, 56, 57, 58, 59, 60, 61, 62]
abbrev MX11_take : List Nat := [1, 2, 13, 47, 48, 49, 50, 51, 52, 53, 54, 55, 56, 57, 58, 59, 60, 61, 62]
abbrev MX11_pen : List Nat := [1, 2, 14, 15, 47, 48, 49, 50, 51, 52, 53, 54, 55, 56, 57, 58, 59, 60, 61, 62]
abbrev MX2_mostWeight : List Nat := []
abbrev MX11_peck : List Nat := [1, 2, 15, 47, 48, 49, 50, 51, 52, 53, 54, 55, 56, 57, 58, 59, 60, 61, 62]
abbrev MX11_leave : List Nat := [1, 2, 14, 15, 47, 48, 49, 50, 51, 52, 53, 54, 55, 56, 57, 58, 59, 60, 61, 62]
abbrev MX2_isCounted : List Nat := []
abbrev MX11_about : List Nat := []
abbrev MX11_isOf : List Nat := []
abbrev MX11_pecks : List Nat := []
abbrev MX0_restore : List Nat := [12, 13, 14, 15]
abbrev MX1_takeBack : List Nat := [1, 2, 12, 13, 14, 15]
abbrev MX11_undo : List Nat := [1, 2, 12, 13, 14, 15]
abbrev MX8_gatherPecks : List Nat := [23]
abbrev MX2_asksForSomebody : List Nat := []
abbrev MX8_gatherAsking : List Nat := [20, 21, 22]
abbrev MX8_gather : List Nat := [3, 17, 18, 19, 20, 21, 22, 23]
abbrev MX4_spreadUnion_c28 : List Nat := [28]
abbrev MX4_spreadUnion_c30 : List Nat := [30]
abbrev MX8_peckOf : List Nat := []
abbrev MX4_spreadSum_c26 : List Nat := [26]
abbrev MX4_spreadSum_c25 : List Nat := [25]
abbrev MX4_spreadUnion_c29 : List Nat := [29]
abbrev MX4_spreadUnion_c27 : List Nat := [27]
abbrev MX4_prepare : List Nat := [3, 10, 17, 18, 19, 20, 21, 22, 23, 25, 26, 27, 28, 29, 30]
abbrev MX8_all : List Nat := []
abbrev MX4_pairsOf : List Nat := []
abbrev MX4_mustBeBelow : List Nat := []
abbrev MX9_choices : List Nat := []
abbrev MX4_costBelow : List Nat := []
abbrev MX9_weighRest : List Nat := [63, 64]
abbrev MX9_solve : List Nat := [3, 4, 10, 17, 18, 19, 20, 21, 22, 23, 25, 26, 27, 28, 29, 30, 63, 64, 99]
abbrev MX9_hasLawful : List Nat := []
abbrev MX9_leastWeight : List Nat := []
abbrev MX11_least : List Nat := [3, 4, 10, 17, 18, 19, 20, 21, 22, 23, 25, 26, 27, 28, 29, 30, 63, 64, 99]
abbrev MX9_howMany : List Nat := []
abbrev MX11_many : List Nat := [3, 4, 10, 17, 18, 19, 20, 21, 22, 23, 25, 26, 27, 28, 29, 30, 63, 64, 99]
abbrev MX11_isIn : List Nat := []
abbrev MX9_bestChoices : List Nat := []
abbrev MX5_append : List Nat := [5, 31]
abbrev MX9_bringInHand : List Nat := [5, 31]
abbrev MX11_best : List Nat := [3, 4, 5, 10, 17, 18, 19, 20, 21, 22, 23, 25, 26, 27, 28, 29, 30, 31, 63, 64, 99]
abbrev MX7_readFrom : List Nat := [3, 17, 18, 19, 20, 21, 22, 23, 32, 33]
abbrev MX9_numberOf_c32 : List Nat := []
abbrev MX11_number : List Nat := [3, 4, 10, 17, 18, 19, 20, 21, 22, 23, 25, 26, 27, 28, 29, 30, 32, 33, 63, 64, 99]
abbrev MJ7_fill_031fb_c66 : List Nat := [66]
abbrev MJ7_fill_53178_c24 : List Nat := [24]
abbrev MX9_agree : List Nat := [4, 24, 66, 99]
abbrev MX9_mayStandAbove : List Nat := []
abbrev MX11_sure : List Nat := [3, 4, 10, 17, 18, 19, 20, 21, 22, 23, 24, 25, 26, 27, 28, 29, 30, 63, 64, 66, 99]
abbrev MX6_addLeads : List Nat := [45]
abbrev MX6_leadOn : List Nat := [45]
abbrev MX6_leadAsBlock : List Nat := [45]
abbrev MX6_blockOf : List Nat := []
abbrev MX6_followAsking : List Nat := [45, 46]
abbrev MJ6_bitCount_0f7a4 : List Nat := []
abbrev MX6_reason : List Nat := [3, 17, 18, 19, 20, 21, 22, 23, 45, 46]
abbrev MX11_why : List Nat := [3, 17, 18, 19, 20, 21, 22, 23, 45, 46]
abbrev MX11_begin : List Nat := [5]
abbrev MX5_holds : List Nat := []
abbrev MX11_stand : List Nat := [5, 31]
abbrev MX5_isPlace : List Nat := []
abbrev MX11_order : List Nat := []
abbrev MX11_shift_c31 : List Nat := [31]
abbrev MX11_move : List Nat := [31]
abbrev MX7_upsetWeight : List Nat := []
abbrev MX11_weight : List Nat := [3, 17, 18, 19, 20, 21, 22, 23, 32, 33]
abbrev MX7_isKept : List Nat := []
abbrev MX7_leastFault : List Nat := []
abbrev MX11_fault : List Nat := [3, 17, 18, 19, 20, 21, 22, 23, 32, 33]
abbrev MX7_writeTo : List Nat := [5, 31]
abbrev MX11_shift_c32 : List Nat := [32]
abbrev MX7_moveSlot : List Nat := [32, 33]
abbrev MX7_weighMoves : List Nat := [34]
abbrev MX7_isLawfulAfter : List Nat := [32, 33]
abbrev MX7_improve : List Nat := [32, 33, 34]
abbrev MX11_better : List Nat := [3, 5, 17, 18, 19, 20, 21, 22, 23, 31, 32, 33, 34]
abbrev MX5_reverse : List Nat := [31]
abbrev MX11_turn : List Nat := [31]
abbrev MX3_followPecks : List Nat := [36]
abbrev MX3_comersTo : List Nat := []
abbrev MX3_nextGroup : List Nat := []
abbrev MX3_settle : List Nat := [3, 7, 17, 18, 19, 20, 21, 22, 23, 35, 36]
abbrev MX11_groups : List Nat := [3, 7, 17, 18, 19, 20, 21, 22, 23, 35, 36]
abbrev MX11_groupOf : List Nat := [3, 7, 17, 18, 19, 20, 21, 22, 23, 35, 36]
abbrev MX9_loosen : List Nat := [4, 65, 99]
abbrev MX9_looseWeight : List Nat := [3, 4, 10, 17, 18, 19, 20, 21, 22, 23, 25, 26, 27, 28, 29, 30, 65, 99]
abbrev MX11_loose : List Nat := [3, 4, 10, 17, 18, 19, 20, 21, 22, 23, 25, 26, 27, 28, 29, 30, 65, 99]
abbrev MJ7_fill_53178_c41 : List Nat := [41]
abbrev MJ7_fill_53178_c42 : List Nat := [42]
abbrev MX10_takeAllPecks : List Nat := [40, 41, 42]
abbrev MX10_peckersOfSet : List Nat := []
abbrev MX10_lengthFrom : List Nat := [43]
abbrev MX10_leastOf : List Nat := []
abbrev MX10_trace : List Nat := [44]
abbrev MX10_findShortest : List Nat := [43, 44]
abbrev MX10_foundPeck : List Nat := []
abbrev MX10_useUp : List Nat := [40, 41, 42]
abbrev MX10_keepFound : List Nat := [8, 37, 38, 39]
abbrev MX10_packAll : List Nat := [3, 8, 17, 18, 19, 20, 21, 22, 23, 37, 38, 39, 40, 41, 42, 43, 44]
abbrev MX11_pack : List Nat := [3, 8, 17, 18, 19, 20, 21, 22, 23, 37, 38, 39, 40, 41, 42, 43, 44]
abbrev MX10_tell : List Nat := []
abbrev MX11_ring : List Nat := []
abbrev MX8_allPecks : List Nat := []
abbrev MX2_penCount : List Nat := []
abbrev MX11_count : List Nat := [3, 17, 18, 19, 20, 21, 22, 23]
abbrev MX12_undo : List Nat := [0, 1]
abbrev MX12_hens : List Nat := []
abbrev MX12_isIn : List Nat := []
abbrev MX12_mayAsk : List Nat := []
abbrev MX12_keep : List Nat := [0, 2]
abbrev MX12_empty : List Nat := [1]
abbrev MX12_hen : List Nat := [0, 1, 2]
abbrev MX12_isHen : List Nat := []
abbrev MX12_asks : List Nat := []
abbrev MX12_ask : List Nat := [0, 1, 2]
abbrev MX12_kind : List Nat := []
abbrev MX12_take : List Nat := [0, 1, 2]
abbrev MX12_pen : List Nat := [0, 1, 2]
abbrev MX12_width : List Nat := []
abbrev MX12_peckOf : List Nat := []
abbrev MX12_peck : List Nat := [0, 1, 2]
abbrev MX12_leave : List Nat := [0, 1, 2]
abbrev MX12_counts : List Nat := []
abbrev MX12_about : List Nat := []
abbrev MX12_isOf : List Nat := []
abbrev MX12_pecks : List Nat := []
abbrev MX12_counting : List Nat := []
abbrev MX12_askedBy : List Nat := []
abbrev MX12_may : List Nat := []
abbrev MX12_mayCome : List Nat := []
abbrev MX12_cost : List Nat := []
abbrev MX12_fillState : List Nat := [4, 5]
abbrev MX12_fill : List Nat := [0, 4, 5]
abbrev MX12_begun : List Nat := []
abbrev MX12_least : List Nat := [0, 4, 5]
abbrev MX12_many : List Nat := [0, 4, 5]
abbrev MX12_loose : List Nat := [0, 4, 5]
abbrev MX12_isBest : List Nat := []
abbrev MX12_best : List Nat := [0, 3, 4, 5]
abbrev MX12_isWhole : List Nat := []
abbrev MX12_number : List Nat := [0, 4, 5]
abbrev MX12_sure : List Nat := [0, 4, 5]
abbrev MX12_findBlocks : List Nat := [7]
abbrev MX12_findDirect : List Nat := [6]
abbrev MX12_grows : List Nat := [6]
abbrev MX12_findAll : List Nat := [6]
abbrev MX12_why : List Nat := [6, 7]
abbrev MX12_begin : List Nat := [0]
abbrev MX12_stands : List Nat := []
abbrev MX12_stand : List Nat := [0, 3]
abbrev MX12_order : List Nat := []
abbrev MX12_shift : List Nat := [3]
abbrev MX12_move : List Nat := [3]
abbrev MX12_weightNow : List Nat := []
abbrev MX12_weight : List Nat := []
abbrev MX12_faulty : List Nat := []
abbrev MX12_fault : List Nat := []
abbrev MX12_betters : List Nat := [3]
abbrev MX12_better : List Nat := [3]
abbrev MX12_turn : List Nat := [3]
abbrev MX12_findReach : List Nat := [8]
abbrev MX12_isOne : List Nat := []
abbrev MX12_isNext : List Nat := []
abbrev MX12_findGroups : List Nat := [8, 9]
abbrev MX12_groups : List Nat := [8, 9]
abbrev MX12_groupOf : List Nat := [8, 9]
abbrev MX12_closes : List Nat := [11]
abbrev MX12_ringNext : List Nat := [11]
abbrev MX12_pack : List Nat := [0, 10, 11, 12]
abbrev MX12_ring : List Nat := []
abbrev MX12_count : List Nat := []

