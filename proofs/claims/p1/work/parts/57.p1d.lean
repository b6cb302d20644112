def askv (a : Nat) : Int32 := if a = 11 then (-2000000005) else nI (a + 1)
theorem q_henok : ∀ (k : Fin 5) (a : Fin 12), (fX11_hen (nI k.val) (askv a.val) sgC0).map Prod.fst = some 0 := by decide +kernel
theorem w_henok : ∀ (k : Fin 5) (a : Fin 12), (fX12_hen (nI k.val) (askv a.val) sgM0 lg0).map Prod.fst = some 0 := by decide +kernel
theorem w_isIn4 (u : Int32) (sg : Sg) (lg : Lg) : fX12_isIn u.toInt64 0 4 sg lg = some (if u < 0 ∨ 4 < u then 0 else 1, sg, lg) := iin32 u 0 4 sg lg
theorem w_isIn11 (u : Int32) (sg : Sg) (lg : Lg) : fX12_isIn u.toInt64 0 11 sg lg = some (if u < 0 ∨ 11 < u then 0 else 1, sg, lg) := iin32 u 0 11 sg lg
theorem w_hens0 : fX12_hens sgM0 lg0 = some (0, sgM0, lg0) := rfl
theorem p_hen (u v : Int32) : OpL true (fX11_hen u v sgC0) (fX12_hen u v sgM0 lg0) (fun _ _ _ => True) := by
  by_cases hk : u < 0 ∨ 4 < u
  · refine op_of (r := -2000000001) ?_ ?_
    · unfold fX11_hen
      have e : fX11_isKind u sgC0 = some (0, sgC0) := by
        unfold fX11_isKind
        rcases hk with h | h
        · rw [if_pos h]
        · by_cases h1 : u < 0
          · rw [if_pos h1]
          · rw [if_neg h1, if_pos h]
      rw [e]; rfl
    · unfold fX12_hen
      rw [w_hens0]
      simp only [b3, w_isIn4, if_pos hk]
      rfl
  · have hk1 : ¬ u < 0 := fun z => hk (Or.inl z)
    have hk2 : ¬ 4 < u := fun z => hk (Or.inr z)
    have e1 : fX11_isKind u sgC0 = some (1, sgC0) := by
      unfold fX11_isKind
      rw [if_neg hk1, if_neg hk2]
    by_cases hv : v = -2000000005 ∨ (¬ v < 0 ∧ ¬ 11 < v ∧ ¬ v = 0)
    · have hu : ∃ k : Fin 5, u = nI k.val := by
        obtain ⟨j, hj, rfl⟩ := nI_of2 (M := 4) (n := 4) (by decide) hk1 (Int32.not_lt.mp hk2)
        exact ⟨⟨j, by omega⟩, rfl⟩
      have ha : ∃ a : Fin 12, v = askv a.val := by
        rcases hv with rfl | ⟨h1, h2, h3⟩
        · exact ⟨11, rfl⟩
        · obtain ⟨j, hj, rfl⟩ := nI_of2 (M := 11) (n := 11) (by decide) h1 (Int32.not_lt.mp h2)
          have hj0 : j ≠ 0 := fun z => h3 (by rw [z]; rfl)
          refine ⟨⟨j - 1, by omega⟩, ?_⟩
          show nI j = askv (j - 1)
          unfold askv
          rw [if_neg (by omega), show j - 1 + 1 = j by omega]
      obtain ⟨k, rfl⟩ := hu
      obtain ⟨a, rfl⟩ := ha
      exact op_of (q_henok k a) (w_henok k a)
    · have hn : ¬ v = -2000000005 := fun z => hv (Or.inl z)
      refine op_of (r := -2000000001) ?_ ?_
      · unfold fX11_hen
        have e2 : fX11_mayAskFor (sgC0 1 0) v sgC0 = some (0, sgC0) := by
          unfold fX11_mayAskFor
          rw [if_neg hn]
          have e3 : fX11_isOther (sgC0 1 0) v sgC0 = some (0, sgC0) := by
            unfold fX11_isOther
            by_cases h1 : v < 0
            · rw [if_pos h1]
            · rw [if_neg h1]
              by_cases h2 : (12 : Int32) ≤ v
              · rw [if_pos h2]
              · rw [if_neg h2]
                by_cases h3 : v = sgC0 1 0
                · rw [if_pos h3]
                · exfalso
                  refine hv (Or.inr ⟨h1, ?_, h3⟩)
                  rw [Int32.lt_iff_toInt_lt]
                  rw [Int32.le_iff_toInt_le] at h2
                  have e11 : (11 : Int32).toInt = 11 := by decide
                  have e12 : (12 : Int32).toInt = 12 := by decide
                  omega
          rw [e3]; rfl
        rw [e1]
        simp only [b2]
        rw [if_neg (by decide), e2]
        rfl
      · unfold fX12_hen
        rw [w_hens0]
        simp only [b3, w_isIn4, if_neg hk]
        rw [if_neg (by decide)]
        have e2 : fX12_mayAsk 0 v sgM0 lg0 = some (0, sgM0, lg0) := by
          unfold fX12_mayAsk
          rw [if_neg hn, w_isIn11]
          simp only [b3]
          by_cases h1 : v < 0 ∨ 11 < v
          · rw [if_pos h1]; rfl
          · rw [if_neg h1, if_neg (by decide)]
            by_cases h3 : v = 0
            · rw [if_pos h3]
            · exact absurd (Or.inr ⟨fun z => h1 (Or.inl z), fun z => h1 (Or.inr z), h3⟩) hv
        rw [e2]
        rfl
theorem q_best0 : (fX11_best 0 sgC0).map Prod.fst = some 0 := by decide +kernel
theorem w_best0 : (fX12_best 0 sgM0 lg0).map Prod.fst = some 0 := by decide +kernel
theorem i64_one {w : Int64} (h : 0 ≤ w) (h0 : ¬ w = 0) : ¬ w < 1 := by
  rw [Int64.le_iff_toInt_le] at h
  rw [Int64.lt_iff_toInt_lt]
  rw [← Int64.toInt_inj] at h0
  have e0 : (0 : Int64).toInt = 0 := by decide
  have e1 : (1 : Int64).toInt = 1 := by decide
  omega
theorem p_best (w : Int64) : OpL true (fX11_best w sgC0) (fX12_best w sgM0 lg0) (fun _ _ _ => True) := by
  by_cases h : 0 ≤ w
  · by_cases h0 : w = 0
    · subst h0
      exact op_of q_best0 w_best0
    · have h1 := i64_one h h0
      refine op_of (r := -2000000005) ?_ ?_
      · have hm := q_many
        unfold fX11_many at hm
        unfold fX11_best
        rw [if_pos h]
        cases hs : fX9_solve sgC0 with
        | none => rw [hs] at hm; cases hm
        | some S =>
          rw [hs, b1] at hm
          rw [b1]
          cases hq : fX9_howMany S with
          | none => rw [hq] at hm; cases hm
          | some y =>
            obtain ⟨y, S2⟩ := y
            rw [hq, b2] at hm
            have hy : y = 1 := Option.some.inj hm
            rw [b2, hy, if_neg h1]
            rfl
      · have hm := w_many
        unfold fX12_many at hm
        unfold fX12_best
        rw [if_pos h]
        cases hs : fX12_fill 1 (-1) (-1) sgM0 lg0 with
        | none => rw [hs] at hm; cases hm
        | some S =>
          obtain ⟨S, K⟩ := S
          rw [hs, b2] at hm
          rw [b2]
          cases hq : fX12_begun S K with
          | none => rw [hq] at hm; cases hm
          | some y =>
            obtain ⟨y, S2, K2⟩ := y
            rw [hq, b3] at hm
            rw [b3]
            obtain ⟨z, hz1, hz2⟩ := Option.map_eq_some_iff.mp hm
            obtain ⟨hi, hz⟩ := gin_some hz1
            have hy : K2 5 y.toNatClampNeg = 1 := by
              rw [← hz2, ← Option.some.inj hz]
            rw [gin_in hi, hy, if_neg h1]
            rfl
  · refine op_of (r := -2000000001) ?_ ?_
    · unfold fX11_best
      rw [if_neg h]; rfl
    · unfold fX12_best
      rw [if_neg h]; rfl
