theorem gz_01 {v : Int32} (h : v &&& 1 = v) : v = 0 ∨ v = 1 := by
  have h1 := pk_and v (m := 1) 1 (by decide)
  rw [h] at h1
  have h2 : v.toBitVec.toNat % 2 ^ 1 = 0 ∨ v.toBitVec.toNat % 2 ^ 1 = 1 := by omega
  rcases h2 with h2 | h2
  · rw [h2] at h1; exact Or.inl h1
  · rw [h2] at h1; exact Or.inr h1
theorem gz_fits {v : Int32} (h : v &&& 1 = v) : fits .boolean (.int v) = true := by
  rcases gz_01 h with rfl | rfl <;> rfl
