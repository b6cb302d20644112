theorem wide_lt (a b : Int32) : a.toInt64 < b.toInt64 ↔ a < b := by rw [Int64.lt_iff_toInt_lt, Int32.toInt_toInt64, Int32.toInt_toInt64, Int32.lt_iff_toInt_lt]
theorem iin32 (v lo hi : Int32) (sg : Sg) (lg : Lg) : fX12_isIn v.toInt64 lo.toInt64 hi.toInt64 sg lg = some (if v < lo ∨ hi < v then 0 else 1, sg, lg) := by
  unfold fX12_isIn
  by_cases h1 : v < lo
  · rw [if_pos ((wide_lt _ _).mpr h1), if_pos (Or.inl h1)]
  · rw [if_neg (fun z => h1 ((wide_lt _ _).mp z))]
    by_cases h2 : hi < v
    · rw [if_pos ((wide_lt _ _).mpr h2), if_pos (Or.inr h2)]
    · rw [if_neg (fun z => h2 ((wide_lt _ _).mp z)), if_neg (fun z => z.elim h1 h2)]
theorem n_isPlace (v : Int32) : fX5_isPlace v sgC0 = some (0, sgC0) := by
  unfold fX5_isPlace
  by_cases h : v < 0
  · rw [if_pos h]
  · rw [if_neg h, if_pos (show (sgC0 5 0) ≤ v from Int32.not_lt.mp h)]
theorem q_ask (u : Int32) (v : Int32) : (fX11_ask u v sgC0).map Prod.fst = some (-2000000001) := by
  unfold fX11_ask
  rw [n_has]
  rfl
theorem w_ask (u : Int32) (v : Int32) : (fX12_ask u v sgM0 lg0).map Prod.fst = some (-2000000001) := by
  unfold fX12_ask
  rw [n_isHen]
  rfl
theorem q_take (u : Int32) (v : Int32) : (fX11_take u v sgC0).map Prod.fst = some (-2000000001) := by
  unfold fX11_take
  rw [n_has]
  rfl
theorem w_take (u : Int32) (v : Int32) : (fX12_take u v sgM0 lg0).map Prod.fst = some (-2000000001) := by
  unfold fX12_take
  rw [n_isHen]
  rfl
theorem q_pen (u : Int32) (v : Int32) : (fX11_pen u v sgC0).map Prod.fst = some (-2000000001) := by
  unfold fX11_pen
  rw [n_has]
  rfl
theorem w_pen (u : Int32) (v : Int32) : (fX12_pen u v sgM0 lg0).map Prod.fst = some (-2000000001) := by
  unfold fX12_pen
  rw [n_isHen]
  rfl
theorem q_peck (u : Int32) (v : Int32) (w : Int64) : (fX11_peck u v w sgC0).map Prod.fst = some (-2000000001) := by
  unfold fX11_peck
  rw [n_has]
  rfl
theorem w_peck (u : Int32) (v : Int32) (w : Int64) : (fX12_peck u v w sgM0 lg0).map Prod.fst = some (-2000000001) := by
  unfold fX12_peck
  rw [n_isHen]
  rfl
theorem q_leave (u : Int32) : (fX11_leave u sgC0).map Prod.fst = some (-2000000001) := by
  unfold fX11_leave
  rw [n_has]
  rfl
theorem w_leave (u : Int32) : (fX12_leave u sgM0 lg0).map Prod.fst = some (-2000000001) := by
  unfold fX12_leave
  rw [n_isHen]
  rfl
theorem q_about (u : Int32) (v : Int32) : (fX11_about u v sgC0).map Prod.fst = some (-2000000001) := by
  unfold fX11_about
  rw [n_has]
  rfl
theorem w_about (u : Int32) (v : Int32) : (fX12_about u v sgM0 lg0).map Prod.fst = some (-2000000001) := by
  unfold fX12_about
  rw [n_isHen]
  rfl
theorem q_isOf (u : Int32) (v : Int32) : (fX11_isOf u v sgC0).map Prod.fst = some (-2000000001) := by
  unfold fX11_isOf
  rw [n_has]
  rfl
theorem w_isOf (u : Int32) (v : Int32) : (fX12_isOf u v sgM0 lg0).map Prod.fst = some (-2000000001) := by
  unfold fX12_isOf
  rw [n_isHen]
  rfl
theorem q_pecks (u : Int32) (v : Int32) : (fX11_pecks u v sgC0).map Prod.fst = some (-2000000001) := by
  unfold fX11_pecks
  rw [n_has]
  rfl
theorem w_pecks (u : Int32) (v : Int32) : (fX12_pecks u v sgM0 lg0).map Prod.fst = some (-2000000001) := by
  unfold fX12_pecks
  rw [n_isHen]
  rfl
theorem q_groupOf (u : Int32) : (fX11_groupOf u sgC0).map Prod.fst = some (-2000000001) := by
  unfold fX11_groupOf
  rw [n_has]
  rfl
theorem w_groupOf (u : Int32) : (fX12_groupOf u sgM0 lg0).map Prod.fst = some (-2000000001) := by
  unfold fX12_groupOf
  rw [n_isHen]
  rfl
theorem q_stand (u : Int32) : (fX11_stand u sgC0).map Prod.fst = some (-2000000001) := by
  unfold fX11_stand
  rw [n_has]
  rfl
theorem w_stand (u : Int32) : (fX12_stand u sgM0 lg0).map Prod.fst = some (-2000000001) := by
  unfold fX12_stand
  rw [n_isHen]
  rfl
theorem w_sure (u : Int32) (v : Int32) : (fX12_sure u v sgM0 lg0).map Prod.fst = some (-2000000001) := by
  unfold fX12_sure
  rw [n_isHen]
  rfl
theorem q_sure (u v : Int32) : (fX11_sure u v sgC0).map Prod.fst = some (-2000000001) := by
  unfold fX11_sure
  rw [n_isCounted]
  by_cases h : u = v
  · rw [if_pos h]; rfl
  · rw [if_neg h]; rfl
theorem q_order (u : Int32) : (fX11_order u sgC0).map Prod.fst = some (-2000000001) := by
  unfold fX11_order
  rw [n_isPlace]
  rfl
theorem q_move (u v : Int32) : (fX11_move u v sgC0).map Prod.fst = some (-2000000001) := by
  unfold fX11_move
  rw [n_isPlace]
  rfl
theorem e_m1 : ((0 : Int32) - 1).toInt64 = -1 := by decide
theorem w_order (u : Int32) : (fX12_order u sgM0 lg0).map Prod.fst = some (-2000000001) := by
  unfold fX12_order
  have e0 : sgM0 0 4 = 0 := rfl
  simp only [e0, e_m1, n_isIn, b3]
  rfl
theorem w_move (u v : Int32) : (fX12_move u v sgM0 lg0).map Prod.fst = some (-2000000001) := by
  unfold fX12_move
  have e0 : sgM0 0 4 = 0 := rfl
  simp only [e0, e_m1, n_isIn, b3]
  rfl
theorem q_ring (u v : Int32) : (fX11_ring u v sgC0).map Prod.fst = some (if u < 0 ∨ v < 0 then (-2000000001) else (-2000000005)) := by
  unfold fX11_ring
  by_cases h1 : u < 0
  · simp [h1]
  · by_cases h2 : v < 0
    · have h3 : ¬ 0 ≤ v := Int32.not_le.mpr h2
      simp [h1, h2, h3]
    · have h3 : 0 ≤ v := Int32.not_lt.mp h2
      have h4 : sgC0 8 1 ≤ u := Int32.not_lt.mp h1
      simp [h1, h2, h3, h4]
theorem w_ring (u v : Int32) : (fX12_ring u v sgM0 lg0).map Prod.fst = some (if u < 0 ∨ v < 0 then (-2000000001) else (-2000000005)) := by
  unfold fX12_ring
  by_cases h1 : u < 0
  · simp [h1]
  · by_cases h2 : v < 0
    · have h3 : ¬ 0 ≤ v := Int32.not_le.mpr h2
      simp [h1, h2, h3]
    · have h3 : 0 ≤ v := Int32.not_lt.mp h2
      have h4 : ¬ u < sgM0 0 17 := h1
      simp [h1, h2, h3, h4]
theorem q_cnt : ∀ k : Fin 7, (fX11_count (nI k.val) sgC0).map Prod.fst = some 0 := by decide +kernel
theorem w_cnt : ∀ k : Fin 7, (fX12_count (nI k.val) sgM0 lg0).map Prod.fst = some 0 := by decide +kernel
theorem p_count (u : Int32) : OpL true (fX11_count u sgC0) (fX12_count u sgM0 lg0) (fun _ _ _ => True) := by
  by_cases h : ∃ k : Fin 7, u = nI k.val
  · obtain ⟨k, rfl⟩ := h
    exact op_of (q_cnt k) (w_cnt k)
  · have h0 : ¬ u = 0 := fun z => h ⟨0, z⟩
    have h1 : ¬ u = 1 := fun z => h ⟨1, z⟩
    have h2 : ¬ u = 2 := fun z => h ⟨2, z⟩
    have h3 : ¬ u = 3 := fun z => h ⟨3, z⟩
    have h4 : ¬ u = 4 := fun z => h ⟨4, z⟩
    have h5 : ¬ u = 5 := fun z => h ⟨5, z⟩
    have h6 : ¬ u = 6 := fun z => h ⟨6, z⟩
    refine op_of (r := -2000000001) ?_ ?_
    · unfold fX11_count
      rw [if_neg h0, if_neg h1, if_neg h2, if_neg h3, if_neg h4, if_neg h5, if_neg h6]; rfl
    · unfold fX12_count
      rw [if_neg h0, if_neg h1, if_neg h2, if_neg h3, if_neg h4, if_neg h5, if_neg h6]; rfl
theorem q_bet : ∀ k : Fin 40, (fX11_better (nI (k.val + 1)) sgC0).map Prod.fst = some 0 := by decide +kernel
theorem w_bet : ∀ k : Fin 40, (fX12_better (nI (k.val + 1)) sgM0 lg0).map Prod.fst = some 0 := by decide +kernel
theorem p_better (u : Int32) : OpL true (fX11_better u sgC0) (fX12_better u sgM0 lg0) (fun _ _ _ => True) := by
  by_cases h : u < 1 ∨ 40 < u
  · refine op_of (r := -2000000001) ?_ ?_
    · unfold fX11_better
      rcases h with h | h
      · rw [if_pos h]; rfl
      · by_cases h1 : u < 1
        · rw [if_pos h1]; rfl
        · rw [if_neg h1, if_neg (Int32.not_le.mpr h)]; rfl
    · unfold fX12_better
      have e := iin32 u 1 40 sgM0 lg0
      rw [if_pos h] at e
      have e2 : fX12_isIn u.toInt64 1 40 sgM0 lg0 = some (0, sgM0, lg0) := e
      rw [e2]
      rfl
  · have h1 : ¬ u < 1 := fun z => h (Or.inl z)
    have h2 : ¬ 40 < u := fun z => h (Or.inr z)
    have h3 : ∃ k : Fin 40, u = nI (k.val + 1) := by
      rw [Int32.lt_iff_toInt_lt] at h1 h2
      have e1 : (1 : Int32).toInt = 1 := by decide
      have e40 : (40 : Int32).toInt = 40 := by decide
      refine ⟨⟨u.toInt.toNat - 1, by omega⟩, Int32.toInt_inj.mp ?_⟩
      rw [nI_toInt (by show u.toInt.toNat - 1 + 1 < 2 ^ 31; omega)]
      show u.toInt = ((u.toInt.toNat - 1 + 1 : Nat) : Int)
      omega
    obtain ⟨k, rfl⟩ := h3
    exact op_of (q_bet k) (w_bet k)
