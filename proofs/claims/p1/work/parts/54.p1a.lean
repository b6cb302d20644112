theorem op_of {eq : Bool} {fx : Option (Int64 × Sg)} {fm : Option (Int64 × Sg × Lg)} {r : Int64} (h1 : fx.map Prod.fst = some r) (h2 : fm.map Prod.fst = some r) : OpL eq fx fm (fun _ _ _ => True) := by
  obtain ⟨⟨r1, sx⟩, e1, e2⟩ := Option.map_eq_some_iff.mp h1
  obtain ⟨⟨r2, sm, lm⟩, e3, e4⟩ := Option.map_eq_some_iff.mp h2
  exact ⟨r1, r2, sx, sm, lm, e1, e3, fun _ => e2.trans e4.symm, trivial⟩
theorem q_undo : (fX11_undo sgC0).map Prod.fst = some (-2000000002) := by decide +kernel
theorem w_undo : (fX12_undo sgM0 lg0).map Prod.fst = some (-2000000002) := by decide +kernel
theorem q_least : (fX11_least sgC0).map Prod.fst = some 0 := by decide +kernel
theorem w_least : (fX12_least sgM0 lg0).map Prod.fst = some 0 := by decide +kernel
theorem q_many : (fX11_many sgC0).map Prod.fst = some 1 := by decide +kernel
theorem w_many : (fX12_many sgM0 lg0).map Prod.fst = some 1 := by decide +kernel
theorem q_number : (fX11_number sgC0).map Prod.fst = some 0 := by decide +kernel
theorem w_number : (fX12_number sgM0 lg0).map Prod.fst = some 0 := by decide +kernel
theorem q_why : (fX11_why sgC0).map Prod.fst = some (-2000000005) := by decide +kernel
theorem w_why : (fX12_why sgM0 lg0).map Prod.fst = some (-2000000005) := by decide +kernel
theorem q_begin : (fX11_begin sgC0).map Prod.fst = some 0 := by decide +kernel
theorem w_begin : (fX12_begin sgM0 lg0).map Prod.fst = some 0 := by decide +kernel
theorem q_weight : (fX11_weight sgC0).map Prod.fst = some 0 := by decide +kernel
theorem w_weight : (fX12_weight sgM0 lg0).map Prod.fst = some 0 := by decide +kernel
theorem q_fault : (fX11_fault sgC0).map Prod.fst = some (-2000000005) := by decide +kernel
theorem w_fault : (fX12_fault sgM0 lg0).map Prod.fst = some (-2000000005) := by decide +kernel
theorem q_turn : (fX11_turn sgC0).map Prod.fst = some 0 := by decide +kernel
theorem w_turn : (fX12_turn sgM0 lg0).map Prod.fst = some 0 := by decide +kernel
theorem q_groups : (fX11_groups sgC0).map Prod.fst = some 0 := by decide +kernel
theorem q_loose : (fX11_loose sgC0).map Prod.fst = some 0 := by decide +kernel
theorem w_loose : (fX12_loose sgM0 lg0).map Prod.fst = some 0 := by decide +kernel
theorem q_pack : (fX11_pack sgC0).map Prod.fst = some 0 := by decide +kernel
theorem w_pack : (fX12_pack sgM0 lg0).map Prod.fst = some 0 := by decide +kernel
theorem w_groups : (fX12_groups sgM0 lg0).map Prod.fst = some 0 := by decide +kernel
