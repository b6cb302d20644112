theorem b1 {α β : Type} (a : α) (k : α → Option β) : bnd1 (some a) k = k a := rfl
theorem b2 {α γ β : Type} (a : α) (b : γ) (k : α → γ → Option β) : bnd2 (some (a, b)) k = k a b := rfl
theorem b3 {α γ δ β : Type} (a : α) (b : γ) (c : δ) (k : α → γ → δ → Option β) : bnd3 (some (a, b, c)) k = k a b c := rfl
theorem n_has (v : Int32) : fX2_has v sgC0 = some (0, sgC0) := by
  unfold fX2_has
  by_cases h : v < 0
  · rw [if_pos h]
  · rw [if_neg h, if_pos (show (sgC0 1 0) ≤ v from Int32.not_lt.mp h)]
theorem n_isCounted (v : Int32) : fX2_isCounted v sgC0 = some (0, sgC0) := by
  unfold fX2_isCounted
  rw [n_has]
  rfl
theorem n_isIn (v : Int64) : fX12_isIn v 0 (-1) sgM0 lg0 = some (0, sgM0, lg0) := by
  unfold fX12_isIn
  by_cases h : v < 0
  · rw [if_pos h]
  · have h2 : (-1 : Int64) < v := by
      rw [Int64.lt_iff_toInt_lt] at h ⊢
      have : (-1 : Int64).toInt = -1 := by decide
      have h0 : (0 : Int64).toInt = 0 := by decide
      omega
    simp [h, h2]
theorem n_isHen (v : Int32) : fX12_isHen v sgM0 lg0 = some (0, sgM0, lg0) := by
  unfold fX12_isHen
  have : fX12_hens sgM0 lg0 = some (0, sgM0, lg0) := rfl
  have e : ((0 : Int32) - 1).toInt64 = -1 := by decide
  simp only [this, b3, e, n_isIn]
  rfl
