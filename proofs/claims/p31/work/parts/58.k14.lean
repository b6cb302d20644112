/-! what is kept by writing free cells -/
def wf (k j : Nat) : Bool := !([1, 2, 3, 4, 10, 11, 12, 13, 15, 17, 18, 19, 20, 21, 22, 23, 25, 26, 27, 28, 29, 30, 63, 64, 65, 99] : List Nat).contains k || (k == 4 && j == 3)
def KW (K : Sg → Prop) : Prop := (∀ sg k j v, wf k j = true → K sg → K (up2 sg k j v)) ∧ ∀ sg n, K sg → K (nw2 sg 66 n)
theorem p_lt {α β : Type} {e : α} {k : α → Option β} {y : β} (h : lt e k = some y) : ∃ x, x = e ∧ k x = some y := ⟨e, rfl, h⟩
theorem p_ite {α : Type} {c : Prop} {_ : Decidable c} {a b : Option α} {y : α} (h : (if c then a else b) = some y) : a = some y ∨ b = some y := by
  by_cases z : c
  · rw [if_pos z] at h; exact Or.inl h
  · rw [if_neg z] at h; exact Or.inr h
theorem p_gin {α : Type} {i : Int32} {n : Nat} {x : Option α} {y : α} (h : gin i n x = some y) : x = some y := by
  unfold gin at h
  split at h
  · cases h
  · exact h
theorem p_gz {α : Type} {v : Int32} {x : Option α} {y : α} (h : gz v x = some y) : x = some y := by
  unfold gz at h
  split at h
  · exact h
  · cases h
theorem p_gne {α : Type} {v : Int32} {x : Option α} {y : α} (h : gne v x = some y) : x = some y := by
  unfold gne at h
  split at h
  · cases h
  · exact h
theorem p_gnw {α : Type} {v : Int32} {x : Option α} {y : α} (h : gnw v x = some y) : x = some y := by
  unfold gnw at h
  split at h
  · cases h
  · exact h
theorem p_bnd1 {α β : Type} {o : Option α} {k : α → Option β} {y : β} (h : bnd1 o k = some y) : ∃ a, o = some a ∧ k a = some y := by
  cases o with
  | none => cases h
  | some a => exact ⟨a, rfl, h⟩
theorem p_bnd2 {α γ β : Type} {o : Option (α × γ)} {k : α → γ → Option β} {y : β} (h : bnd2 o k = some y) : ∃ a b, o = some (a, b) ∧ k a b = some y := by
  cases o with
  | none => cases h
  | some a => exact ⟨a.1, a.2, rfl, h⟩
theorem kfX7_readFrom_25 {K : Sg → Prop} (hK : KW K) {r25 : (Int32 × Sg) → Option (Int32 × Sg)} {v2 : Int32} {sg : Sg} {y : Int32 × Sg} (hr25 : ∀ z, r25 z = some y → K z.2 → K y.2) (h : fX7_readFrom_25 r25 v2 sg = some y) (hk : K sg) : K y.2 := by
  unfold fX7_readFrom_25 at h
  rcases p_ite h with h | h
  · skip
    cases h
    exact hk
  · skip
    replace h := p_gin h
    obtain ⟨x3, ex3, h⟩ := p_lt h
    replace h := p_gin h
    obtain ⟨x5, ex5, h⟩ := p_lt h
    rcases p_ite h with h | h
    · skip
      cases h
      exact hk
    · skip
      replace h := p_gin h
      obtain ⟨sg8, esg8, h⟩ := p_lt h
      have qsg8 : K sg8 := by rw [esg8]; exact hK.1 _ _ _ _ rfl hk
      replace h := p_gin h
      obtain ⟨sg10, esg10, h⟩ := p_lt h
      have qsg10 : K sg10 := by rw [esg10]; exact hK.1 _ _ _ _ rfl qsg8
      obtain ⟨x11, ex11, h⟩ := p_lt h
      exact hr25 _ h qsg10
theorem kLX7_readFrom_25 {K : Sg → Prop} (hK : KW K) {y : Int32 × Sg} : ∀ z, LX7_readFrom_25 z = some y → K z.2 → K y.2 := by
  intro z h
  unfold LX7_readFrom_25 at h
  exact loop_ind (fun rec z => fX7_readFrom_25 rec z.1 z.2) (y := y) (P := fun z => K z.2 → K y.2) (fun rec hrec z h hk => kfX7_readFrom_25 hK hrec h hk) z h
theorem kfX6_addLeads {K : Sg → Prop} (hK : KW K) {v1 : Int32} {v2 : Int32} {sg : Sg} {y : Int32 × Sg} (h : fX6_addLeads v1 v2 sg = some y) (hk : K sg) : K y.2 := by
  unfold fX6_addLeads at h
  replace h := p_gin h
  obtain ⟨x2, ex2, h⟩ := p_lt h
  replace h := p_gin h
  obtain ⟨x4, ex4, h⟩ := p_lt h
  replace h := p_gin h
  obtain ⟨sg6, esg6, h⟩ := p_lt h
  have qsg6 : K sg6 := by rw [esg6]; exact hK.1 _ _ _ _ rfl hk
  replace h := p_gin h
  rcases p_ite h with h | h
  · skip
    cases h
    exact qsg6
  · skip
    cases h
    exact qsg6
theorem kfX11_isIn {K : Sg → Prop} (hK : KW K) {v0 : Int32} {v1 : Int32} {sg : Sg} {y : Int32 × Sg} (h : fX11_isIn v0 v1 sg = some y) (hk : K sg) : K y.2 := by
  unfold fX11_isIn at h
  rcases p_ite h with h | h
  · skip
    cases h
    exact hk
  · skip
    cases h
    exact hk
theorem kfX6_leadOn_37 {K : Sg → Prop} (hK : KW K) {r4 : (Int32 × Int32 × Int32 × Sg) → Option (Int32 × Sg)} {v1 : Int32} {v2 : Int32} {v3 : Int32} {sg : Sg} {y : Int32 × Sg} (hr4 : ∀ z, r4 z = some y → K z.2.2.2 → K y.2) (h : fX6_leadOn_37 r4 v1 v2 v3 sg = some y) (hk : K sg) : K y.2 := by
  unfold fX6_leadOn_37 at h
  obtain ⟨x1, ex1, h⟩ := p_lt h
  exact hr4 _ h hk
theorem kfX6_leadOn_4 {K : Sg → Prop} (hK : KW K) {r4 : (Int32 × Int32 × Int32 × Sg) → Option (Int32 × Sg)} {v1 : Int32} {v2 : Int32} {v3 : Int32} {sg : Sg} {y : Int32 × Sg} (hr4 : ∀ z, r4 z = some y → K z.2.2.2 → K y.2) (h : fX6_leadOn_4 r4 v1 v2 v3 sg = some y) (hk : K sg) : K y.2 := by
  unfold fX6_leadOn_4 at h
  rcases p_ite h with h | h
  · skip
    obtain ⟨y2, sg3, csg3, h⟩ := p_bnd2 h
    have qsg3 : K sg3 := kfX6_addLeads hK  csg3 hk
    replace h := p_gz h
    cases h
    exact qsg3
  · skip
    replace h := p_gin h
    obtain ⟨y7, sg8, csg8, h⟩ := p_bnd2 h
    have qsg8 : K sg8 := kfX11_isIn hK  csg8 hk
    rcases p_ite h with h | h
    · skip
      exact kfX6_leadOn_37 hK hr4 h qsg8
    · skip
      replace h := p_gin h
      obtain ⟨x13, ex13, h⟩ := p_lt h
      exact kfX6_leadOn_37 hK hr4 h qsg8
theorem kLX6_leadOn_4 {K : Sg → Prop} (hK : KW K) {y : Int32 × Sg} : ∀ z, LX6_leadOn_4 z = some y → K z.2.2.2 → K y.2 := by
  intro z h
  unfold LX6_leadOn_4 at h
  exact loop_ind (fun rec z => fX6_leadOn_4 rec z.1 z.2.1 z.2.2.1 z.2.2.2) (y := y) (P := fun z => K z.2.2.2 → K y.2) (fun rec hrec z h hk => kfX6_leadOn_4 hK hrec h hk) z h
theorem kfX6_leadOn {K : Sg → Prop} (hK : KW K) {v1 : Int32} {sg : Sg} {y : Int32 × Sg} (h : fX6_leadOn v1 sg = some y) (hk : K sg) : K y.2 := by
  unfold fX6_leadOn at h
  exact kLX6_leadOn_4 hK  _ h hk
theorem kfX6_leadAsBlock_103 {K : Sg → Prop} (hK : KW K) {r47 : (Int32 × Int32 × Int32 × Int32 × Sg) → Option (Int32 × Sg)} {v1 : Int32} {v2 : Int32} {v3 : Int32} {v4 : Int32} {sg : Sg} {y : Int32 × Sg} (hr47 : ∀ z, r47 z = some y → K z.2.2.2.2 → K y.2) (h : fX6_leadAsBlock_103 r47 v1 v2 v3 v4 sg = some y) (hk : K sg) : K y.2 := by
  unfold fX6_leadAsBlock_103 at h
  obtain ⟨x1, ex1, h⟩ := p_lt h
  exact hr47 _ h hk
theorem kfX6_leadAsBlock_47 {K : Sg → Prop} (hK : KW K) {r47 : (Int32 × Int32 × Int32 × Int32 × Sg) → Option (Int32 × Sg)} {v1 : Int32} {v2 : Int32} {v3 : Int32} {v4 : Int32} {sg : Sg} {y : Int32 × Sg} (hr47 : ∀ z, r47 z = some y → K z.2.2.2.2 → K y.2) (h : fX6_leadAsBlock_47 r47 v1 v2 v3 v4 sg = some y) (hk : K sg) : K y.2 := by
  unfold fX6_leadAsBlock_47 at h
  rcases p_ite h with h | h
  · skip
    replace h := p_gz h
    cases h
    exact hk
  · skip
    obtain ⟨y3, sg4, csg4, h⟩ := p_bnd2 h
    have qsg4 : K sg4 := kfX11_isIn hK  csg4 hk
    rcases p_ite h with h | h
    · skip
      replace h := p_gin h
      rcases p_ite h with h | h
      · skip
        exact kfX6_leadAsBlock_103 hK hr47 h qsg4
      · skip
        obtain ⟨y10, sg11, csg11, h⟩ := p_bnd2 h
        have qsg11 : K sg11 := kfX6_addLeads hK  csg11 qsg4
        obtain ⟨x13, ex13, h⟩ := p_lt h
        exact kfX6_leadAsBlock_103 hK hr47 h qsg11
    · skip
      obtain ⟨y14, sg15, csg15, h⟩ := p_bnd2 h
      have qsg15 : K sg15 := kfX6_addLeads hK  csg15 qsg4
      obtain ⟨x17, ex17, h⟩ := p_lt h
      exact kfX6_leadAsBlock_103 hK hr47 h qsg15
theorem kLX6_leadAsBlock_47 {K : Sg → Prop} (hK : KW K) {y : Int32 × Sg} : ∀ z, LX6_leadAsBlock_47 z = some y → K z.2.2.2.2 → K y.2 := by
  intro z h
  unfold LX6_leadAsBlock_47 at h
  exact loop_ind (fun rec z => fX6_leadAsBlock_47 rec z.1 z.2.1 z.2.2.1 z.2.2.2.1 z.2.2.2.2) (y := y) (P := fun z => K z.2.2.2.2 → K y.2) (fun rec hrec z h hk => kfX6_leadAsBlock_47 hK hrec h hk) z h
theorem kfX6_leadAsBlock_36 {K : Sg → Prop} (hK : KW K) {r4 : (Int32 × Int32 × Int32 × Sg) → Option (Int32 × Sg)} {v1 : Int32} {v2 : Int32} {v3 : Int32} {sg : Sg} {y : Int32 × Sg} (hr4 : ∀ z, r4 z = some y → K z.2.2.2 → K y.2) (h : fX6_leadAsBlock_36 r4 v1 v2 v3 sg = some y) (hk : K sg) : K y.2 := by
  unfold fX6_leadAsBlock_36 at h
  obtain ⟨x1, ex1, h⟩ := p_lt h
  exact hr4 _ h hk
theorem kfX6_leadAsBlock_4 {K : Sg → Prop} (hK : KW K) {r4 : (Int32 × Int32 × Int32 × Sg) → Option (Int32 × Sg)} {v1 : Int32} {v2 : Int32} {v3 : Int32} {sg : Sg} {y : Int32 × Sg} (hr4 : ∀ z, r4 z = some y → K z.2.2.2 → K y.2) (h : fX6_leadAsBlock_4 r4 v1 v2 v3 sg = some y) (hk : K sg) : K y.2 := by
  unfold fX6_leadAsBlock_4 at h
  rcases p_ite h with h | h
  · skip
    exact kLX6_leadAsBlock_47 hK  _ h hk
  · skip
    obtain ⟨y2, sg3, csg3, h⟩ := p_bnd2 h
    have qsg3 : K sg3 := kfX11_isIn hK  csg3 hk
    rcases p_ite h with h | h
    · skip
      exact kfX6_leadAsBlock_36 hK hr4 h qsg3
    · skip
      replace h := p_gin h
      obtain ⟨x8, ex8, h⟩ := p_lt h
      exact kfX6_leadAsBlock_36 hK hr4 h qsg3
theorem kLX6_leadAsBlock_4 {K : Sg → Prop} (hK : KW K) {y : Int32 × Sg} : ∀ z, LX6_leadAsBlock_4 z = some y → K z.2.2.2 → K y.2 := by
  intro z h
  unfold LX6_leadAsBlock_4 at h
  exact loop_ind (fun rec z => fX6_leadAsBlock_4 rec z.1 z.2.1 z.2.2.1 z.2.2.2) (y := y) (P := fun z => K z.2.2.2 → K y.2) (fun rec hrec z h hk => kfX6_leadAsBlock_4 hK hrec h hk) z h
theorem kfX6_leadAsBlock {K : Sg → Prop} (hK : KW K) {v1 : Int32} {sg : Sg} {y : Int32 × Sg} (h : fX6_leadAsBlock v1 sg = some y) (hk : K sg) : K y.2 := by
  unfold fX6_leadAsBlock at h
  exact kLX6_leadAsBlock_4 hK  _ h hk
theorem kfX6_followAsking_58 {K : Sg → Prop} (hK : KW K) {r47 : (Int32 × Sg) → Option (Sg)} {r58 : (Int32 × Int32 × Int32 × Sg) → Option (Sg)} {v1 : Int32} {v2 : Int32} {v3 : Int32} {sg : Sg} {y : Sg} (hr47 : ∀ z, r47 z = some y → K z.2 → K y) (hr58 : ∀ z, r58 z = some y → K z.2.2.2 → K y) (h : fX6_followAsking_58 r47 r58 v1 v2 v3 sg = some y) (hk : K sg) : K y := by
  unfold fX6_followAsking_58 at h
  rcases p_ite h with h | h
  · skip
    rcases p_ite h with h | h
    · skip
      cases h
      exact hk
    · skip
      obtain ⟨x3, ex3, h⟩ := p_lt h
      exact hr47 _ h hk
  · skip
    obtain ⟨y4, sg5, csg5, h⟩ := p_bnd2 h
    have qsg5 : K sg5 := kfX6_leadOn hK  csg5 hk
    obtain ⟨x7, ex7, h⟩ := p_lt h
    replace h := p_gin h
    obtain ⟨y9, sg10, csg10, h⟩ := p_bnd2 h
    have qsg10 : K sg10 := kfX6_leadAsBlock hK  csg10 qsg5
    obtain ⟨x12, ex12, h⟩ := p_lt h
    obtain ⟨x13, ex13, h⟩ := p_lt h
    exact hr58 _ h qsg10
theorem kLX6_followAsking_58 {K : Sg → Prop} (hK : KW K) {r47 : (Int32 × Sg) → Option (Sg)} {y : Sg} (hr47 : ∀ z, r47 z = some y → K z.2 → K y) : ∀ z, LX6_followAsking_58 r47 z = some y → K z.2.2.2 → K y := by
  intro z h
  unfold LX6_followAsking_58 at h
  exact loop_ind (fun rec z => fX6_followAsking_58 r47 rec z.1 z.2.1 z.2.2.1 z.2.2.2) (y := y) (P := fun z => K z.2.2.2 → K y) (fun rec hrec z h hk => kfX6_followAsking_58 hK hr47 hrec h hk) z h
theorem kfX6_followAsking_47 {K : Sg → Prop} (hK : KW K) {r47 : (Int32 × Sg) → Option (Sg)} {v1 : Int32} {sg : Sg} {y : Sg} (hr47 : ∀ z, r47 z = some y → K z.2 → K y) (h : fX6_followAsking_47 r47 v1 sg = some y) (hk : K sg) : K y := by
  unfold fX6_followAsking_47 at h
  rcases p_ite h with h | h
  · skip
    cases h
    exact hk
  · skip
    exact kLX6_followAsking_58 hK hr47 _ h hk
theorem kLX6_followAsking_47 {K : Sg → Prop} (hK : KW K) {y : Sg} : ∀ z, LX6_followAsking_47 z = some y → K z.2 → K y := by
  intro z h
  unfold LX6_followAsking_47 at h
  exact loop_ind (fun rec z => fX6_followAsking_47 rec z.1 z.2) (y := y) (P := fun z => K z.2 → K y) (fun rec hrec z h hk => kfX6_followAsking_47 hK hrec h hk) z h
theorem kfX6_blockOf_54 {K : Sg → Prop} (hK : KW K) {r6 : (Int32 × Int32 × Sg) → Option (Int32 × Sg)} {r20 : (Int32 × Int32 × Int32 × Sg) → Option (Int32 × Sg)} {v2 : Int32} {v3 : Int32} {v4 : Int32} {sg : Sg} {y : Int32 × Sg} (hr6 : ∀ z, r6 z = some y → K z.2.2 → K y.2) (hr20 : ∀ z, r20 z = some y → K z.2.2.2 → K y.2) (h : fX6_blockOf_54 r6 r20 v2 v3 v4 sg = some y) (hk : K sg) : K y.2 := by
  unfold fX6_blockOf_54 at h
  obtain ⟨x1, ex1, h⟩ := p_lt h
  exact hr20 _ h hk
theorem kfX6_blockOf_20 {K : Sg → Prop} (hK : KW K) {r6 : (Int32 × Int32 × Sg) → Option (Int32 × Sg)} {r20 : (Int32 × Int32 × Int32 × Sg) → Option (Int32 × Sg)} {v2 : Int32} {v3 : Int32} {v4 : Int32} {sg : Sg} {y : Int32 × Sg} (hr6 : ∀ z, r6 z = some y → K z.2.2 → K y.2) (hr20 : ∀ z, r20 z = some y → K z.2.2.2 → K y.2) (h : fX6_blockOf_20 r6 r20 v2 v3 v4 sg = some y) (hk : K sg) : K y.2 := by
  unfold fX6_blockOf_20 at h
  rcases p_ite h with h | h
  · skip
    obtain ⟨x2, ex2, h⟩ := p_lt h
    exact hr6 _ h hk
  · skip
    obtain ⟨y3, sg4, csg4, h⟩ := p_bnd2 h
    have qsg4 : K sg4 := kfX11_isIn hK  csg4 hk
    rcases p_ite h with h | h
    · skip
      exact kfX6_blockOf_54 hK hr6 hr20 h qsg4
    · skip
      replace h := p_gin h
      obtain ⟨x9, ex9, h⟩ := p_lt h
      exact kfX6_blockOf_54 hK hr6 hr20 h qsg4
theorem kLX6_blockOf_20 {K : Sg → Prop} (hK : KW K) {r6 : (Int32 × Int32 × Sg) → Option (Int32 × Sg)} {y : Int32 × Sg} (hr6 : ∀ z, r6 z = some y → K z.2.2 → K y.2) : ∀ z, LX6_blockOf_20 r6 z = some y → K z.2.2.2 → K y.2 := by
  intro z h
  unfold LX6_blockOf_20 at h
  exact loop_ind (fun rec z => fX6_blockOf_20 r6 rec z.1 z.2.1 z.2.2.1 z.2.2.2) (y := y) (P := fun z => K z.2.2.2 → K y.2) (fun rec hrec z h hk => kfX6_blockOf_20 hK hr6 hrec h hk) z h
theorem kfX6_blockOf_6 {K : Sg → Prop} (hK : KW K) {r6 : (Int32 × Int32 × Sg) → Option (Int32 × Sg)} {v2 : Int32} {v3 : Int32} {sg : Sg} {y : Int32 × Sg} (hr6 : ∀ z, r6 z = some y → K z.2.2 → K y.2) (h : fX6_blockOf_6 r6 v2 v3 sg = some y) (hk : K sg) : K y.2 := by
  unfold fX6_blockOf_6 at h
  rcases p_ite h with h | h
  · skip
    cases h
    exact hk
  · skip
    exact kLX6_blockOf_20 hK hr6 _ h hk
theorem kLX6_blockOf_6 {K : Sg → Prop} (hK : KW K) {y : Int32 × Sg} : ∀ z, LX6_blockOf_6 z = some y → K z.2.2 → K y.2 := by
  intro z h
  unfold LX6_blockOf_6 at h
  exact loop_ind (fun rec z => fX6_blockOf_6 rec z.1 z.2.1 z.2.2) (y := y) (P := fun z => K z.2.2 → K y.2) (fun rec hrec z h hk => kfX6_blockOf_6 hK hrec h hk) z h
theorem kfX6_blockOf {K : Sg → Prop} (hK : KW K) {v1 : Int32} {sg : Sg} {y : Int32 × Sg} (h : fX6_blockOf v1 sg = some y) (hk : K sg) : K y.2 := by
  unfold fX6_blockOf at h
  obtain ⟨x1, ex1, h⟩ := p_lt h
  exact kLX6_blockOf_6 hK  _ h hk
theorem kfX6_followAsking_2 {K : Sg → Prop} (hK : KW K) {r2 : (Int32 × Sg) → Option (Sg)} {v1 : Int32} {sg : Sg} {y : Sg} (hr2 : ∀ z, r2 z = some y → K z.2 → K y) (h : fX6_followAsking_2 r2 v1 sg = some y) (hk : K sg) : K y := by
  unfold fX6_followAsking_2 at h
  rcases p_ite h with h | h
  · skip
    exact kLX6_followAsking_47 hK  _ h hk
  · skip
    replace h := p_gin h
    obtain ⟨x3, ex3, h⟩ := p_lt h
    replace h := p_gin h
    obtain ⟨sg5, esg5, h⟩ := p_lt h
    have qsg5 : K sg5 := by rw [esg5]; exact hK.1 _ _ _ _ rfl hk
    obtain ⟨y6, sg7, csg7, h⟩ := p_bnd2 h
    have qsg7 : K sg7 := kfX6_blockOf hK  csg7 qsg5
    replace h := p_gin h
    obtain ⟨sg10, esg10, h⟩ := p_lt h
    have qsg10 : K sg10 := by rw [esg10]; exact hK.1 _ _ _ _ rfl qsg7
    obtain ⟨x11, ex11, h⟩ := p_lt h
    exact hr2 _ h qsg10
theorem kLX6_followAsking_2 {K : Sg → Prop} (hK : KW K) {y : Sg} : ∀ z, LX6_followAsking_2 z = some y → K z.2 → K y := by
  intro z h
  unfold LX6_followAsking_2 at h
  exact loop_ind (fun rec z => fX6_followAsking_2 rec z.1 z.2) (y := y) (P := fun z => K z.2 → K y) (fun rec hrec z h hk => kfX6_followAsking_2 hK hrec h hk) z h
theorem kfX6_followAsking {K : Sg → Prop} (hK : KW K) {sg : Sg} {y : Sg} (h : fX6_followAsking sg = some y) (hk : K sg) : K y := by
  unfold fX6_followAsking at h
  exact kLX6_followAsking_2 hK  _ h hk
theorem kfX6_reason_62 {K : Sg → Prop} (hK : KW K) {r62 : (Int32 × Sg) → Option (Int64 × Sg)} {v1 : Int32} {sg : Sg} {y : Int64 × Sg} (hr62 : ∀ z, r62 z = some y → K z.2 → K y.2) (h : fX6_reason_62 r62 v1 sg = some y) (hk : K sg) : K y.2 := by
  unfold fX6_reason_62 at h
  rcases p_ite h with h | h
  · skip
    cases h
    exact hk
  · skip
    replace h := p_gin h
    obtain ⟨y3, sg4, csg4, h⟩ := p_bnd2 h
    have qsg4 : K sg4 := kfX11_isIn hK  csg4 hk
    rcases p_ite h with h | h
    · skip
      obtain ⟨x8, ex8, h⟩ := p_lt h
      exact hr62 _ h qsg4
    · skip
      replace h := p_gin h
      cases h
      exact qsg4
theorem kLX6_reason_62 {K : Sg → Prop} (hK : KW K) {y : Int64 × Sg} : ∀ z, LX6_reason_62 z = some y → K z.2 → K y.2 := by
  intro z h
  unfold LX6_reason_62 at h
  exact loop_ind (fun rec z => fX6_reason_62 rec z.1 z.2) (y := y) (P := fun z => K z.2 → K y.2) (fun rec hrec z h hk => kfX6_reason_62 hK hrec h hk) z h
theorem kfJ6_bitCount_0f7a4 {K : Sg → Prop} (hK : KW K) {v0 : Int32} {sg : Sg} {y : Int32 × Sg} (h : fJ6_bitCount_0f7a4 v0 sg = some y) (hk : K sg) : K y.2 := by
  unfold fJ6_bitCount_0f7a4 at h
  obtain ⟨x1, ex1, h⟩ := p_lt h
  obtain ⟨x2, ex2, h⟩ := p_lt h
  obtain ⟨x3, ex3, h⟩ := p_lt h
  obtain ⟨x4, ex4, h⟩ := p_lt h
  obtain ⟨x5, ex5, h⟩ := p_lt h
  cases h
  exact hk
theorem kfX6_reason_9 {K : Sg → Prop} (hK : KW K) {r9 : (Int32 × Sg) → Option (Int64 × Sg)} {v1 : Int32} {sg : Sg} {y : Int64 × Sg} (hr9 : ∀ z, r9 z = some y → K z.2 → K y.2) (h : fX6_reason_9 r9 v1 sg = some y) (hk : K sg) : K y.2 := by
  unfold fX6_reason_9 at h
  rcases p_ite h with h | h
  · skip
    obtain ⟨sg2, csg2, h⟩ := p_bnd1 h
    have qsg2 : K sg2 := kfX6_followAsking hK  csg2 hk
    exact kLX6_reason_62 hK  _ h qsg2
  · skip
    replace h := p_gin h
    obtain ⟨y5, sg6, csg6, h⟩ := p_bnd2 h
    have qsg6 : K sg6 := kfJ6_bitCount_0f7a4 hK  csg6 hk
    rcases p_ite h with h | h
    · skip
      obtain ⟨x9, ex9, h⟩ := p_lt h
      exact hr9 _ h qsg6
    · skip
      replace h := p_gin h
      cases h
      exact qsg6
theorem kLX6_reason_9 {K : Sg → Prop} (hK : KW K) {y : Int64 × Sg} : ∀ z, LX6_reason_9 z = some y → K z.2 → K y.2 := by
  intro z h
  unfold LX6_reason_9 at h
  exact loop_ind (fun rec z => fX6_reason_9 rec z.1 z.2) (y := y) (P := fun z => K z.2 → K y.2) (fun rec hrec z h hk => kfX6_reason_9 hK hrec h hk) z h
theorem kfX3_nextGroup_44 {K : Sg → Prop} (hK : KW K) {r2 : (Int32 × Int32 × Sg) → Option (Int32 × Sg)} {v1 : Int32} {v2 : Int32} {sg : Sg} {y : Int32 × Sg} (hr2 : ∀ z, r2 z = some y → K z.2.2 → K y.2) (h : fX3_nextGroup_44 r2 v1 v2 sg = some y) (hk : K sg) : K y.2 := by
  unfold fX3_nextGroup_44 at h
  obtain ⟨x1, ex1, h⟩ := p_lt h
  exact hr2 _ h hk
theorem kfX3_comersTo_34 {K : Sg → Prop} (hK : KW K) {r4 : (Int32 × Int32 × Int32 × Sg) → Option (Int32 × Sg)} {v1 : Int32} {v2 : Int32} {v3 : Int32} {sg : Sg} {y : Int32 × Sg} (hr4 : ∀ z, r4 z = some y → K z.2.2.2 → K y.2) (h : fX3_comersTo_34 r4 v1 v2 v3 sg = some y) (hk : K sg) : K y.2 := by
  unfold fX3_comersTo_34 at h
  obtain ⟨x1, ex1, h⟩ := p_lt h
  exact hr4 _ h hk
theorem kfX3_comersTo_4 {K : Sg → Prop} (hK : KW K) {r4 : (Int32 × Int32 × Int32 × Sg) → Option (Int32 × Sg)} {v1 : Int32} {v2 : Int32} {v3 : Int32} {sg : Sg} {y : Int32 × Sg} (hr4 : ∀ z, r4 z = some y → K z.2.2.2 → K y.2) (h : fX3_comersTo_4 r4 v1 v2 v3 sg = some y) (hk : K sg) : K y.2 := by
  unfold fX3_comersTo_4 at h
  rcases p_ite h with h | h
  · skip
    cases h
    exact hk
  · skip
    replace h := p_gin h
    obtain ⟨y3, sg4, csg4, h⟩ := p_bnd2 h
    have qsg4 : K sg4 := kfX11_isIn hK  csg4 hk
    rcases p_ite h with h | h
    · skip
      exact kfX3_comersTo_34 hK hr4 h qsg4
    · skip
      obtain ⟨x8, ex8, h⟩ := p_lt h
      exact kfX3_comersTo_34 hK hr4 h qsg4
theorem kLX3_comersTo_4 {K : Sg → Prop} (hK : KW K) {y : Int32 × Sg} : ∀ z, LX3_comersTo_4 z = some y → K z.2.2.2 → K y.2 := by
  intro z h
  unfold LX3_comersTo_4 at h
  exact loop_ind (fun rec z => fX3_comersTo_4 rec z.1 z.2.1 z.2.2.1 z.2.2.2) (y := y) (P := fun z => K z.2.2.2 → K y.2) (fun rec hrec z h hk => kfX3_comersTo_4 hK hrec h hk) z h
theorem kfX3_comersTo {K : Sg → Prop} (hK : KW K) {v1 : Int32} {sg : Sg} {y : Int32 × Sg} (h : fX3_comersTo v1 sg = some y) (hk : K sg) : K y.2 := by
  unfold fX3_comersTo at h
  exact kLX3_comersTo_4 hK  _ h hk
theorem kfX3_nextGroup_2 {K : Sg → Prop} (hK : KW K) {r2 : (Int32 × Int32 × Sg) → Option (Int32 × Sg)} {v1 : Int32} {v2 : Int32} {sg : Sg} {y : Int32 × Sg} (hr2 : ∀ z, r2 z = some y → K z.2.2 → K y.2) (h : fX3_nextGroup_2 r2 v1 v2 sg = some y) (hk : K sg) : K y.2 := by
  unfold fX3_nextGroup_2 at h
  rcases p_ite h with h | h
  · skip
    cases h
    exact hk
  · skip
    obtain ⟨y2, sg3, csg3, h⟩ := p_bnd2 h
    have qsg3 : K sg3 := kfX11_isIn hK  csg3 hk
    rcases p_ite h with h | h
    · skip
      exact kfX3_nextGroup_44 hK hr2 h qsg3
    · skip
      obtain ⟨y7, sg8, csg8, h⟩ := p_bnd2 h
      have qsg8 : K sg8 := kfX3_comersTo hK  csg8 qsg3
      obtain ⟨x10, ex10, h⟩ := p_lt h
      replace h := p_gin h
      rcases p_ite h with h | h
      · skip
        cases h
        exact qsg8
      · skip
        exact kfX3_nextGroup_44 hK hr2 h qsg8
theorem kLX3_nextGroup_2 {K : Sg → Prop} (hK : KW K) {y : Int32 × Sg} : ∀ z, LX3_nextGroup_2 z = some y → K z.2.2 → K y.2 := by
  intro z h
  unfold LX3_nextGroup_2 at h
  exact loop_ind (fun rec z => fX3_nextGroup_2 rec z.1 z.2.1 z.2.2) (y := y) (P := fun z => K z.2.2 → K y.2) (fun rec hrec z h hk => kfX3_nextGroup_2 hK hrec h hk) z h
theorem kfX3_nextGroup {K : Sg → Prop} (hK : KW K) {v1 : Int32} {sg : Sg} {y : Int32 × Sg} (h : fX3_nextGroup v1 sg = some y) (hk : K sg) : K y.2 := by
  unfold fX3_nextGroup at h
  exact kLX3_nextGroup_2 hK  _ h hk
theorem kfX3_settle_108 {K : Sg → Prop} (hK : KW K) {r52 : (Int32 × Int32 × Sg) → Option (Sg)} {r76 : (Int32 × Int32 × Int32 × Int32 × Sg) → Option (Sg)} {v1 : Int32} {v2 : Int32} {v3 : Int32} {v4 : Int32} {sg : Sg} {y : Sg} (hr52 : ∀ z, r52 z = some y → K z.2.2 → K y) (hr76 : ∀ z, r76 z = some y → K z.2.2.2.2 → K y) (h : fX3_settle_108 r52 r76 v1 v2 v3 v4 sg = some y) (hk : K sg) : K y := by
  unfold fX3_settle_108 at h
  obtain ⟨x1, ex1, h⟩ := p_lt h
  exact hr76 _ h hk
theorem kfX3_settle_76 {K : Sg → Prop} (hK : KW K) {r52 : (Int32 × Int32 × Sg) → Option (Sg)} {r76 : (Int32 × Int32 × Int32 × Int32 × Sg) → Option (Sg)} {v1 : Int32} {v2 : Int32} {v3 : Int32} {v4 : Int32} {sg : Sg} {y : Sg} (hr52 : ∀ z, r52 z = some y → K z.2.2 → K y) (hr76 : ∀ z, r76 z = some y → K z.2.2.2.2 → K y) (h : fX3_settle_76 r52 r76 v1 v2 v3 v4 sg = some y) (hk : K sg) : K y := by
  unfold fX3_settle_76 at h
  rcases p_ite h with h | h
  · skip
    obtain ⟨x2, ex2, h⟩ := p_lt h
    obtain ⟨x3, ex3, h⟩ := p_lt h
    obtain ⟨sg4, esg4, h⟩ := p_lt h
    have qsg4 : K sg4 := by rw [esg4]; exact hK.1 _ _ _ _ rfl hk
    obtain ⟨x5, ex5, h⟩ := p_lt h
    exact hr52 _ h qsg4
  · skip
    obtain ⟨y6, sg7, csg7, h⟩ := p_bnd2 h
    have qsg7 : K sg7 := kfX11_isIn hK  csg7 hk
    rcases p_ite h with h | h
    · skip
      exact kfX3_settle_108 hK hr52 hr76 h qsg7
    · skip
      obtain ⟨x11, ex11, h⟩ := p_lt h
      replace h := p_gin h
      obtain ⟨sg13, esg13, h⟩ := p_lt h
      have qsg13 : K sg13 := by rw [esg13]; exact hK.1 _ _ _ _ rfl qsg7
      exact kfX3_settle_108 hK hr52 hr76 h qsg13
theorem kLX3_settle_76 {K : Sg → Prop} (hK : KW K) {r52 : (Int32 × Int32 × Sg) → Option (Sg)} {y : Sg} (hr52 : ∀ z, r52 z = some y → K z.2.2 → K y) : ∀ z, LX3_settle_76 r52 z = some y → K z.2.2.2.2 → K y := by
  intro z h
  unfold LX3_settle_76 at h
  exact loop_ind (fun rec z => fX3_settle_76 r52 rec z.1 z.2.1 z.2.2.1 z.2.2.2.1 z.2.2.2.2) (y := y) (P := fun z => K z.2.2.2.2 → K y) (fun rec hrec z h hk => kfX3_settle_76 hK hr52 hrec h hk) z h
theorem kfX3_settle_52 {K : Sg → Prop} (hK : KW K) {r52 : (Int32 × Int32 × Sg) → Option (Sg)} {v1 : Int32} {v2 : Int32} {sg : Sg} {y : Sg} (hr52 : ∀ z, r52 z = some y → K z.2.2 → K y) (h : fX3_settle_52 r52 v1 v2 sg = some y) (hk : K sg) : K y := by
  unfold fX3_settle_52 at h
  rcases p_ite h with h | h
  · skip
    cases h
    exact hk
  · skip
    rcases p_ite h with h | h
    · skip
      cases h
      exact hk
    · skip
      obtain ⟨y3, sg4, csg4, h⟩ := p_bnd2 h
      have qsg4 : K sg4 := kfX3_nextGroup hK  csg4 hk
      exact kLX3_settle_76 hK hr52 _ h qsg4
theorem kLX3_settle_52 {K : Sg → Prop} (hK : KW K) {y : Sg} : ∀ z, LX3_settle_52 z = some y → K z.2.2 → K y := by
  intro z h
  unfold LX3_settle_52 at h
  exact loop_ind (fun rec z => fX3_settle_52 rec z.1 z.2.1 z.2.2) (y := y) (P := fun z => K z.2.2 → K y) (fun rec hrec z h hk => kfX3_settle_52 hK hrec h hk) z h
theorem kfX8_all {K : Sg → Prop} (hK : KW K) {sg : Sg} {y : Int32 × Sg} (h : fX8_all sg = some y) (hk : K sg) : K y.2 := by
  unfold fX8_all at h
  cases h
  exact hk
theorem kfX10_peckersOfSet_32 {K : Sg → Prop} (hK : KW K) {r4 : (Int32 × Int32 × Int32 × Sg) → Option (Int32 × Sg)} {v1 : Int32} {v2 : Int32} {v3 : Int32} {sg : Sg} {y : Int32 × Sg} (hr4 : ∀ z, r4 z = some y → K z.2.2.2 → K y.2) (h : fX10_peckersOfSet_32 r4 v1 v2 v3 sg = some y) (hk : K sg) : K y.2 := by
  unfold fX10_peckersOfSet_32 at h
  obtain ⟨x1, ex1, h⟩ := p_lt h
  exact hr4 _ h hk
theorem kfX10_peckersOfSet_4 {K : Sg → Prop} (hK : KW K) {r4 : (Int32 × Int32 × Int32 × Sg) → Option (Int32 × Sg)} {v1 : Int32} {v2 : Int32} {v3 : Int32} {sg : Sg} {y : Int32 × Sg} (hr4 : ∀ z, r4 z = some y → K z.2.2.2 → K y.2) (h : fX10_peckersOfSet_4 r4 v1 v2 v3 sg = some y) (hk : K sg) : K y.2 := by
  unfold fX10_peckersOfSet_4 at h
  rcases p_ite h with h | h
  · skip
    cases h
    exact hk
  · skip
    obtain ⟨y2, sg3, csg3, h⟩ := p_bnd2 h
    have qsg3 : K sg3 := kfX11_isIn hK  csg3 hk
    rcases p_ite h with h | h
    · skip
      exact kfX10_peckersOfSet_32 hK hr4 h qsg3
    · skip
      replace h := p_gin h
      obtain ⟨x8, ex8, h⟩ := p_lt h
      exact kfX10_peckersOfSet_32 hK hr4 h qsg3
theorem kLX10_peckersOfSet_4 {K : Sg → Prop} (hK : KW K) {y : Int32 × Sg} : ∀ z, LX10_peckersOfSet_4 z = some y → K z.2.2.2 → K y.2 := by
  intro z h
  unfold LX10_peckersOfSet_4 at h
  exact loop_ind (fun rec z => fX10_peckersOfSet_4 rec z.1 z.2.1 z.2.2.1 z.2.2.2) (y := y) (P := fun z => K z.2.2.2 → K y.2) (fun rec hrec z h hk => kfX10_peckersOfSet_4 hK hrec h hk) z h
theorem kfX10_peckersOfSet {K : Sg → Prop} (hK : KW K) {v1 : Int32} {sg : Sg} {y : Int32 × Sg} (h : fX10_peckersOfSet v1 sg = some y) (hk : K sg) : K y.2 := by
  unfold fX10_peckersOfSet at h
  exact kLX10_peckersOfSet_4 hK  _ h hk
theorem kfX10_lengthFrom_25 {K : Sg → Prop} (hK : KW K) {r25 : (Int32 × Int32 × Int32 × Int32 × Sg) → Option (Int32 × Sg)} {v1 : Int32} {v2 : Int32} {v3 : Int32} {v4 : Int32} {sg : Sg} {y : Int32 × Sg} (hr25 : ∀ z, r25 z = some y → K z.2.2.2.2 → K y.2) (h : fX10_lengthFrom_25 r25 v1 v2 v3 v4 sg = some y) (hk : K sg) : K y.2 := by
  unfold fX10_lengthFrom_25 at h
  rcases p_ite h with h | h
  · skip
    cases h
    exact hk
  · skip
    rcases p_ite h with h | h
    · skip
      cases h
      exact hk
    · skip
      obtain ⟨x3, ex3, h⟩ := p_lt h
      replace h := p_gin h
      obtain ⟨y5, sg6, csg6, h⟩ := p_bnd2 h
      have qsg6 : K sg6 := kfX10_peckersOfSet hK  csg6 hk
      obtain ⟨x8, ex8, h⟩ := p_lt h
      replace h := p_gin h
      obtain ⟨sg10, esg10, h⟩ := p_lt h
      have qsg10 : K sg10 := by rw [esg10]; exact hK.1 _ _ _ _ rfl qsg6
      replace h := p_gin h
      obtain ⟨x12, ex12, h⟩ := p_lt h
      replace h := p_gin h
      rcases p_ite h with h | h
      · skip
        cases h
        exact qsg10
      · skip
        replace h := p_gin h
        replace h := p_gin h
        rcases p_ite h with h | h
        · skip
          obtain ⟨x18, ex18, h⟩ := p_lt h
          exact hr25 _ h qsg10
        · skip
          cases h
          exact qsg10
theorem kLX10_lengthFrom_25 {K : Sg → Prop} (hK : KW K) {y : Int32 × Sg} : ∀ z, LX10_lengthFrom_25 z = some y → K z.2.2.2.2 → K y.2 := by
  intro z h
  unfold LX10_lengthFrom_25 at h
  exact loop_ind (fun rec z => fX10_lengthFrom_25 rec z.1 z.2.1 z.2.2.1 z.2.2.2.1 z.2.2.2.2) (y := y) (P := fun z => K z.2.2.2.2 → K y.2) (fun rec hrec z h hk => kfX10_lengthFrom_25 hK hrec h hk) z h
theorem kfX10_lengthFrom {K : Sg → Prop} (hK : KW K) {v1 : Int32} {v2 : Int32} {sg : Sg} {y : Int32 × Sg} (h : fX10_lengthFrom v1 v2 sg = some y) (hk : K sg) : K y.2 := by
  unfold fX10_lengthFrom at h
  obtain ⟨y1, sg2, csg2, h⟩ := p_bnd2 h
  have qsg2 : K sg2 := kfX8_all hK  csg2 hk
  obtain ⟨x4, ex4, h⟩ := p_lt h
  obtain ⟨x5, ex5, h⟩ := p_lt h
  replace h := p_gin h
  obtain ⟨sg7, esg7, h⟩ := p_lt h
  have qsg7 : K sg7 := by rw [esg7]; exact hK.1 _ _ _ _ rfl qsg2
  exact kLX10_lengthFrom_25 hK  _ h qsg7
theorem kfX10_findShortest_56 {K : Sg → Prop} (hK : KW K) {r4 : (Int32 × Int32 × Sg) → Option (Int32 × Sg)} {v1 : Int32} {v2 : Int32} {sg : Sg} {y : Int32 × Sg} (hr4 : ∀ z, r4 z = some y → K z.2.2 → K y.2) (h : fX10_findShortest_56 r4 v1 v2 sg = some y) (hk : K sg) : K y.2 := by
  unfold fX10_findShortest_56 at h
  obtain ⟨x1, ex1, h⟩ := p_lt h
  exact hr4 _ h hk
theorem kfX10_leastOf {K : Sg → Prop} (hK : KW K) {v0 : Int32} {sg : Sg} {y : Int32 × Sg} (h : fX10_leastOf v0 sg = some y) (hk : K sg) : K y.2 := by
  unfold fX10_leastOf at h
  rcases p_ite h with h | h
  · skip
    cases h
    exact hk
  · skip
    obtain ⟨y2, sg3, csg3, h⟩ := p_bnd2 h
    have qsg3 : K sg3 := kfJ6_bitCount_0f7a4 hK  csg3 hk
    cases h
    exact qsg3
theorem kfX10_trace_9 {K : Sg → Prop} (hK : KW K) {r9 : (Int32 × Int32 × Sg) → Option (Sg)} {v2 : Int32} {v3 : Int32} {sg : Sg} {y : Sg} (hr9 : ∀ z, r9 z = some y → K z.2.2 → K y) (h : fX10_trace_9 r9 v2 v3 sg = some y) (hk : K sg) : K y := by
  unfold fX10_trace_9 at h
  rcases p_ite h with h | h
  · skip
    cases h
    exact hk
  · skip
    obtain ⟨x2, ex2, h⟩ := p_lt h
    replace h := p_gin h
    obtain ⟨x4, ex4, h⟩ := p_lt h
    replace h := p_gin h
    obtain ⟨x6, ex6, h⟩ := p_lt h
    replace h := p_gin h
    obtain ⟨x8, ex8, h⟩ := p_lt h
    obtain ⟨y9, sg10, csg10, h⟩ := p_bnd2 h
    have qsg10 : K sg10 := kfX10_leastOf hK  csg10 hk
    replace h := p_gin h
    obtain ⟨sg13, esg13, h⟩ := p_lt h
    have qsg13 : K sg13 := by rw [esg13]; exact hK.1 _ _ _ _ rfl qsg10
    obtain ⟨x14, ex14, h⟩ := p_lt h
    exact hr9 _ h qsg13
theorem kLX10_trace_9 {K : Sg → Prop} (hK : KW K) {y : Sg} : ∀ z, LX10_trace_9 z = some y → K z.2.2 → K y := by
  intro z h
  unfold LX10_trace_9 at h
  exact loop_ind (fun rec z => fX10_trace_9 rec z.1 z.2.1 z.2.2) (y := y) (P := fun z => K z.2.2 → K y) (fun rec hrec z h hk => kfX10_trace_9 hK hrec h hk) z h
theorem kfX10_trace {K : Sg → Prop} (hK : KW K) {v1 : Int32} {v2 : Int32} {sg : Sg} {y : Sg} (h : fX10_trace v1 v2 sg = some y) (hk : K sg) : K y := by
  unfold fX10_trace at h
  replace h := p_gin h
  obtain ⟨sg2, esg2, h⟩ := p_lt h
  have qsg2 : K sg2 := by rw [esg2]; exact hK.1 _ _ _ _ rfl hk
  exact kLX10_trace_9 hK  _ h qsg2
theorem kfX10_findShortest_32 {K : Sg → Prop} (hK : KW K) {r4 : (Int32 × Int32 × Sg) → Option (Int32 × Sg)} {v1 : Int32} {v2 : Int32} {w0 : Int32} {sg : Sg} {y : Int32 × Sg} (hr4 : ∀ z, r4 z = some y → K z.2.2 → K y.2) (h : fX10_findShortest_32 r4 v1 v2 w0 sg = some y) (hk : K sg) : K y.2 := by
  unfold fX10_findShortest_32 at h
  obtain ⟨y1, sg2, csg2, h⟩ := p_bnd2 h
  have qsg2 : K sg2 := kfX10_lengthFrom hK  csg2 hk
  rcases p_ite h with h | h
  · skip
    exact kfX10_findShortest_56 hK hr4 h qsg2
  · skip
    obtain ⟨sg5, csg5, h⟩ := p_bnd1 h
    have qsg5 : K sg5 := kfX10_trace hK  csg5 qsg2
    exact kfX10_findShortest_56 hK hr4 h qsg5
theorem kfX10_findShortest_4 {K : Sg → Prop} (hK : KW K) {r4 : (Int32 × Int32 × Sg) → Option (Int32 × Sg)} {v1 : Int32} {v2 : Int32} {sg : Sg} {y : Int32 × Sg} (hr4 : ∀ z, r4 z = some y → K z.2.2 → K y.2) (h : fX10_findShortest_4 r4 v1 v2 sg = some y) (hk : K sg) : K y.2 := by
  unfold fX10_findShortest_4 at h
  rcases p_ite h with h | h
  · skip
    cases h
    exact hk
  · skip
    rcases p_ite h with h | h
    · skip
      exact kfX10_findShortest_32 hK hr4 h hk
    · skip
      exact kfX10_findShortest_32 hK hr4 h hk
theorem kLX10_findShortest_4 {K : Sg → Prop} (hK : KW K) {y : Int32 × Sg} : ∀ z, LX10_findShortest_4 z = some y → K z.2.2 → K y.2 := by
  intro z h
  unfold LX10_findShortest_4 at h
  exact loop_ind (fun rec z => fX10_findShortest_4 rec z.1 z.2.1 z.2.2) (y := y) (P := fun z => K z.2.2 → K y.2) (fun rec hrec z h hk => kfX10_findShortest_4 hK hrec h hk) z h
theorem kfX10_findShortest {K : Sg → Prop} (hK : KW K) {sg : Sg} {y : Int32 × Sg} (h : fX10_findShortest sg = some y) (hk : K sg) : K y.2 := by
  unfold fX10_findShortest at h
  exact kLX10_findShortest_4 hK  _ h hk
theorem kfX10_foundPeck_14 {K : Sg → Prop} (hK : KW K) {v1 : Int32} {w0 : Int32} {sg : Sg} {y : Int32 × Sg} (h : fX10_foundPeck_14 v1 w0 sg = some y) (hk : K sg) : K y.2 := by
  unfold fX10_foundPeck_14 at h
  replace h := p_gin h
  replace h := p_gin h
  cases h
  exact hk
theorem kfX10_foundPeck {K : Sg → Prop} (hK : KW K) {v1 : Int32} {v2 : Int32} {sg : Sg} {y : Int32 × Sg} (h : fX10_foundPeck v1 v2 sg = some y) (hk : K sg) : K y.2 := by
  unfold fX10_foundPeck at h
  rcases p_ite h with h | h
  · skip
    exact kfX10_foundPeck_14 hK  h hk
  · skip
    exact kfX10_foundPeck_14 hK  h hk
theorem kfX10_useUp_112 {K : Sg → Prop} (hK : KW K) {r34 : (Int32 × Int32 × Int32 × Sg) → Option (Int32 × Sg)} {v1 : Int32} {v2 : Int32} {v3 : Int32} {sg : Sg} {y : Int32 × Sg} (hr34 : ∀ z, r34 z = some y → K z.2.2.2 → K y.2) (h : fX10_useUp_112 r34 v1 v2 v3 sg = some y) (hk : K sg) : K y.2 := by
  unfold fX10_useUp_112 at h
  obtain ⟨x1, ex1, h⟩ := p_lt h
  exact hr34 _ h hk
theorem kfX10_useUp_34 {K : Sg → Prop} (hK : KW K) {r34 : (Int32 × Int32 × Int32 × Sg) → Option (Int32 × Sg)} {v1 : Int32} {v2 : Int32} {v3 : Int32} {sg : Sg} {y : Int32 × Sg} (hr34 : ∀ z, r34 z = some y → K z.2.2.2 → K y.2) (h : fX10_useUp_34 r34 v1 v2 v3 sg = some y) (hk : K sg) : K y.2 := by
  unfold fX10_useUp_34 at h
  rcases p_ite h with h | h
  · skip
    cases h
    exact hk
  · skip
    obtain ⟨y2, sg3, csg3, h⟩ := p_bnd2 h
    have qsg3 : K sg3 := kfX10_foundPeck hK  csg3 hk
    replace h := p_gin h
    obtain ⟨x6, ex6, h⟩ := p_lt h
    replace h := p_gin h
    obtain ⟨sg8, esg8, h⟩ := p_lt h
    have qsg8 : K sg8 := by rw [esg8]; exact hK.1 _ _ _ _ rfl qsg3
    replace h := p_gin h
    rcases p_ite h with h | h
    · skip
      obtain ⟨x11, ex11, h⟩ := p_lt h
      replace h := p_gin h
      obtain ⟨x13, ex13, h⟩ := p_lt h
      replace h := p_gin h
      obtain ⟨sg15, esg15, h⟩ := p_lt h
      have qsg15 : K sg15 := by rw [esg15]; exact hK.1 _ _ _ _ rfl qsg8
      obtain ⟨x16, ex16, h⟩ := p_lt h
      replace h := p_gin h
      obtain ⟨x18, ex18, h⟩ := p_lt h
      replace h := p_gin h
      obtain ⟨sg20, esg20, h⟩ := p_lt h
      have qsg20 : K sg20 := by rw [esg20]; exact hK.1 _ _ _ _ rfl qsg15
      exact kfX10_useUp_112 hK hr34 h qsg20
    · skip
      exact kfX10_useUp_112 hK hr34 h qsg8
theorem kLX10_useUp_34 {K : Sg → Prop} (hK : KW K) {y : Int32 × Sg} : ∀ z, LX10_useUp_34 z = some y → K z.2.2.2 → K y.2 := by
  intro z h
  unfold LX10_useUp_34 at h
  exact loop_ind (fun rec z => fX10_useUp_34 rec z.1 z.2.1 z.2.2.1 z.2.2.2) (y := y) (P := fun z => K z.2.2.2 → K y.2) (fun rec hrec z h hk => kfX10_useUp_34 hK hrec h hk) z h
theorem kfX10_useUp_5 {K : Sg → Prop} (hK : KW K) {r5 : (Int32 × Int32 × Int32 × Sg) → Option (Int32 × Sg)} {v1 : Int32} {v2 : Int32} {v3 : Int32} {sg : Sg} {y : Int32 × Sg} (hr5 : ∀ z, r5 z = some y → K z.2.2.2 → K y.2) (h : fX10_useUp_5 r5 v1 v2 v3 sg = some y) (hk : K sg) : K y.2 := by
  unfold fX10_useUp_5 at h
  rcases p_ite h with h | h
  · skip
    exact kLX10_useUp_34 hK  _ h hk
  · skip
    obtain ⟨y2, sg3, csg3, h⟩ := p_bnd2 h
    have qsg3 : K sg3 := kfX10_foundPeck hK  csg3 hk
    replace h := p_gin h
    obtain ⟨x6, ex6, h⟩ := p_lt h
    obtain ⟨x7, ex7, h⟩ := p_lt h
    exact hr5 _ h qsg3
theorem kLX10_useUp_5 {K : Sg → Prop} (hK : KW K) {y : Int32 × Sg} : ∀ z, LX10_useUp_5 z = some y → K z.2.2.2 → K y.2 := by
  intro z h
  unfold LX10_useUp_5 at h
  exact loop_ind (fun rec z => fX10_useUp_5 rec z.1 z.2.1 z.2.2.1 z.2.2.2) (y := y) (P := fun z => K z.2.2.2 → K y.2) (fun rec hrec z h hk => kfX10_useUp_5 hK hrec h hk) z h
theorem kfX10_useUp {K : Sg → Prop} (hK : KW K) {v1 : Int32} {sg : Sg} {y : Int32 × Sg} (h : fX10_useUp v1 sg = some y) (hk : K sg) : K y.2 := by
  unfold fX10_useUp at h
  exact kLX10_useUp_5 hK  _ h hk
theorem kfX10_keepFound_22 {K : Sg → Prop} (hK : KW K) {r22 : (Int32 × Int32 × Sg) → Option (Sg)} {v1 : Int32} {v3 : Int32} {sg : Sg} {y : Sg} (hr22 : ∀ z, r22 z = some y → K z.2.2 → K y) (h : fX10_keepFound_22 r22 v1 v3 sg = some y) (hk : K sg) : K y := by
  unfold fX10_keepFound_22 at h
  rcases p_ite h with h | h
  · skip
    obtain ⟨x2, ex2, h⟩ := p_lt h
    obtain ⟨sg3, esg3, h⟩ := p_lt h
    have qsg3 : K sg3 := by rw [esg3]; exact hK.1 _ _ _ _ rfl hk
    cases h
    exact qsg3
  · skip
    replace h := p_gin h
    obtain ⟨x5, ex5, h⟩ := p_lt h
    replace h := p_gin h
    obtain ⟨x7, ex7, h⟩ := p_lt h
    replace h := p_gin h
    obtain ⟨sg9, esg9, h⟩ := p_lt h
    have qsg9 : K sg9 := by rw [esg9]; exact hK.1 _ _ _ _ rfl hk
    obtain ⟨x10, ex10, h⟩ := p_lt h
    exact hr22 _ h qsg9
theorem kLX10_keepFound_22 {K : Sg → Prop} (hK : KW K) {y : Sg} : ∀ z, LX10_keepFound_22 z = some y → K z.2.2 → K y := by
  intro z h
  unfold LX10_keepFound_22 at h
  exact loop_ind (fun rec z => fX10_keepFound_22 rec z.1 z.2.1 z.2.2) (y := y) (P := fun z => K z.2.2 → K y) (fun rec hrec z h hk => kfX10_keepFound_22 hK hrec h hk) z h
theorem kfX10_keepFound {K : Sg → Prop} (hK : KW K) {v1 : Int32} {v2 : Int32} {sg : Sg} {y : Sg} (h : fX10_keepFound v1 v2 sg = some y) (hk : K sg) : K y := by
  unfold fX10_keepFound at h
  replace h := p_gin h
  obtain ⟨sg2, esg2, h⟩ := p_lt h
  have qsg2 : K sg2 := by rw [esg2]; exact hK.1 _ _ _ _ rfl hk
  replace h := p_gin h
  obtain ⟨sg4, esg4, h⟩ := p_lt h
  have qsg4 : K sg4 := by rw [esg4]; exact hK.1 _ _ _ _ rfl qsg2
  exact kLX10_keepFound_22 hK  _ h qsg4
theorem kfX10_packAll_20 {K : Sg → Prop} (hK : KW K) {r20 : (Int64 × Int32 × Sg) → Option (Int64 × Sg)} {v1 : Int64} {v3 : Int32} {sg : Sg} {y : Int64 × Sg} (hr20 : ∀ z, r20 z = some y → K z.2.2 → K y.2) (h : fX10_packAll_20 r20 v1 v3 sg = some y) (hk : K sg) : K y.2 := by
  unfold fX10_packAll_20 at h
  rcases p_ite h with h | h
  · skip
    cases h
    exact hk
  · skip
    obtain ⟨y2, sg3, csg3, h⟩ := p_bnd2 h
    have qsg3 : K sg3 := kfX10_findShortest hK  csg3 hk
    rcases p_ite h with h | h
    · skip
      cases h
      exact qsg3
    · skip
      obtain ⟨y6, sg7, csg7, h⟩ := p_bnd2 h
      have qsg7 : K sg7 := kfX10_useUp hK  csg7 qsg3
      obtain ⟨sg9, csg9, h⟩ := p_bnd1 h
      have qsg9 : K sg9 := kfX10_keepFound hK  csg9 qsg7
      obtain ⟨x11, ex11, h⟩ := p_lt h
      obtain ⟨x12, ex12, h⟩ := p_lt h
      exact hr20 _ h qsg9
theorem kLX10_packAll_20 {K : Sg → Prop} (hK : KW K) {y : Int64 × Sg} : ∀ z, LX10_packAll_20 z = some y → K z.2.2 → K y.2 := by
  intro z h
  unfold LX10_packAll_20 at h
  exact loop_ind (fun rec z => fX10_packAll_20 rec z.1 z.2.1 z.2.2) (y := y) (P := fun z => K z.2.2 → K y.2) (fun rec hrec z h hk => kfX10_packAll_20 hK hrec h hk) z h
theorem kfX4_pairsOf {K : Sg → Prop} (hK : KW K) {v1 : Int32} {sg : Sg} {y : Int32 × Sg} (h : fX4_pairsOf v1 sg = some y) (hk : K sg) : K y.2 := by
  unfold fX4_pairsOf at h
  obtain ⟨x1, ex1, h⟩ := p_lt h
  replace h := p_gin h
  obtain ⟨x3, ex3, h⟩ := p_lt h
  replace h := p_gin h
  cases h
  exact hk
theorem kfX4_mustBeBelow {K : Sg → Prop} (hK : KW K) {v1 : Int32} {sg : Sg} {y : Int32 × Sg} (h : fX4_mustBeBelow v1 sg = some y) (hk : K sg) : K y.2 := by
  unfold fX4_mustBeBelow at h
  obtain ⟨x1, ex1, h⟩ := p_lt h
  replace h := p_gin h
  obtain ⟨x3, ex3, h⟩ := p_lt h
  replace h := p_gin h
  cases h
  exact hk
theorem kfX9_choices_42 {K : Sg → Prop} (hK : KW K) {v2 : Int32} {w0 : Int32} {sg : Sg} {y : Int32 × Sg} (h : fX9_choices_42 v2 w0 sg = some y) (hk : K sg) : K y.2 := by
  unfold fX9_choices_42 at h
  obtain ⟨y1, sg2, csg2, h⟩ := p_bnd2 h
  have qsg2 : K sg2 := kfX4_mustBeBelow hK  csg2 hk
  cases h
  exact qsg2
theorem kfX9_choices {K : Sg → Prop} (hK : KW K) {v1 : Int32} {sg : Sg} {y : Int32 × Sg} (h : fX9_choices v1 sg = some y) (hk : K sg) : K y.2 := by
  unfold fX9_choices at h
  obtain ⟨y1, sg2, csg2, h⟩ := p_bnd2 h
  have qsg2 : K sg2 := kfX8_all hK  csg2 hk
  obtain ⟨x4, ex4, h⟩ := p_lt h
  obtain ⟨y5, sg6, csg6, h⟩ := p_bnd2 h
  have qsg6 : K sg6 := kfX4_pairsOf hK  csg6 qsg2
  obtain ⟨x8, ex8, h⟩ := p_lt h
  rcases p_ite h with h | h
  · skip
    rcases p_ite h with h | h
    · skip
      exact kfX9_choices_42 hK  h qsg6
    · skip
      exact kfX9_choices_42 hK  h qsg6
  · skip
    cases h
    exact qsg6
theorem kfX9_bestChoices_77 {K : Sg → Prop} (hK : KW K) {r11 : (Int32 × Int32 × Int32 × Int32 × Sg) → Option (Int32 × Sg)} {v1 : Int32} {v2 : Int32} {v3 : Int32} {v4 : Int32} {sg : Sg} {y : Int32 × Sg} (hr11 : ∀ z, r11 z = some y → K z.2.2.2.2 → K y.2) (h : fX9_bestChoices_77 r11 v1 v2 v3 v4 sg = some y) (hk : K sg) : K y.2 := by
  unfold fX9_bestChoices_77 at h
  obtain ⟨x1, ex1, h⟩ := p_lt h
  exact hr11 _ h hk
theorem kfX4_costBelow {K : Sg → Prop} (hK : KW K) {v1 : Int32} {v2 : Int32} {sg : Sg} {y : Int32 × Sg} (h : fX4_costBelow v1 v2 sg = some y) (hk : K sg) : K y.2 := by
  unfold fX4_costBelow at h
  obtain ⟨x1, ex1, h⟩ := p_lt h
  replace h := p_gin h
  obtain ⟨x3, ex3, h⟩ := p_lt h
  replace h := p_gin h
  cases h
  exact hk
theorem kfX9_bestChoices_11 {K : Sg → Prop} (hK : KW K) {r11 : (Int32 × Int32 × Int32 × Int32 × Sg) → Option (Int32 × Sg)} {v1 : Int32} {v2 : Int32} {v3 : Int32} {v4 : Int32} {sg : Sg} {y : Int32 × Sg} (hr11 : ∀ z, r11 z = some y → K z.2.2.2.2 → K y.2) (h : fX9_bestChoices_11 r11 v1 v2 v3 v4 sg = some y) (hk : K sg) : K y.2 := by
  unfold fX9_bestChoices_11 at h
  rcases p_ite h with h | h
  · skip
    cases h
    exact hk
  · skip
    rcases p_ite h with h | h
    · skip
      cases h
      exact hk
    · skip
      obtain ⟨y3, sg4, csg4, h⟩ := p_bnd2 h
      have qsg4 : K sg4 := kfX11_isIn hK  csg4 hk
      rcases p_ite h with h | h
      · skip
        exact kfX9_bestChoices_77 hK hr11 h qsg4
      · skip
        replace h := p_gin h
        obtain ⟨x9, ex9, h⟩ := p_lt h
        replace h := p_gin h
        obtain ⟨y11, sg12, csg12, h⟩ := p_bnd2 h
        have qsg12 : K sg12 := kfX4_costBelow hK  csg12 qsg4
        rcases p_ite h with h | h
        · skip
          obtain ⟨x15, ex15, h⟩ := p_lt h
          exact kfX9_bestChoices_77 hK hr11 h qsg12
        · skip
          exact kfX9_bestChoices_77 hK hr11 h qsg12
theorem kLX9_bestChoices_11 {K : Sg → Prop} (hK : KW K) {y : Int32 × Sg} : ∀ z, LX9_bestChoices_11 z = some y → K z.2.2.2.2 → K y.2 := by
  intro z h
  unfold LX9_bestChoices_11 at h
  exact loop_ind (fun rec z => fX9_bestChoices_11 rec z.1 z.2.1 z.2.2.1 z.2.2.2.1 z.2.2.2.2) (y := y) (P := fun z => K z.2.2.2.2 → K y.2) (fun rec hrec z h hk => kfX9_bestChoices_11 hK hrec h hk) z h
theorem kfX9_bestChoices {K : Sg → Prop} (hK : KW K) {v1 : Int32} {sg : Sg} {y : Int32 × Sg} (h : fX9_bestChoices v1 sg = some y) (hk : K sg) : K y.2 := by
  unfold fX9_bestChoices at h
  obtain ⟨y1, sg2, csg2, h⟩ := p_bnd2 h
  have qsg2 : K sg2 := kfX9_choices hK  csg2 hk
  exact kLX9_bestChoices_11 hK  _ h qsg2
theorem kfX5_append {K : Sg → Prop} (hK : KW K) {v1 : Int32} {sg : Sg} {y : Sg} (h : fX5_append v1 sg = some y) (hk : K sg) : K y := by
  unfold fX5_append at h
  rcases p_ite h with h | h
  · skip
    cases h
    exact hk
  · skip
    replace h := p_gin h
    obtain ⟨sg3, esg3, h⟩ := p_lt h
    have qsg3 : K sg3 := by rw [esg3]; exact hK.1 _ _ _ _ rfl hk
    obtain ⟨x4, ex4, h⟩ := p_lt h
    obtain ⟨sg5, esg5, h⟩ := p_lt h
    have qsg5 : K sg5 := by rw [esg5]; exact hK.1 _ _ _ _ rfl qsg3
    cases h
    exact qsg5
theorem kfX9_bringInHand_112 {K : Sg → Prop} (hK : KW K) {r14 : (Int64 × Int32 × Int32 × Sg) → Option (Sg)} {v4 : Int64} {v6 : Int32} {v7 : Int32} {v9 : Int32} {sg : Sg} {y : Sg} (hr14 : ∀ z, r14 z = some y → K z.2.2.2 → K y) (h : fX9_bringInHand_112 r14 v4 v6 v7 v9 sg = some y) (hk : K sg) : K y := by
  unfold fX9_bringInHand_112 at h
  rcases p_ite h with h | h
  · skip
    cases h
    exact hk
  · skip
    replace h := p_gin h
    obtain ⟨sg3, csg3, h⟩ := p_bnd1 h
    have qsg3 : K sg3 := kfX5_append hK  csg3 hk
    obtain ⟨x5, ex5, h⟩ := p_lt h
    obtain ⟨x6, ex6, h⟩ := p_lt h
    exact hr14 _ h qsg3
theorem kfX9_bringInHand_106 {K : Sg → Prop} (hK : KW K) {r14 : (Int64 × Int32 × Int32 × Sg) → Option (Sg)} {r40 : (Int64 × Int32 × Int32 × Int32 × Int32 × Int32 × Sg) → Option (Sg)} {v4 : Int64} {v6 : Int32} {v7 : Int32} {v8 : Int32} {v9 : Int32} {v10 : Int32} {sg : Sg} {y : Sg} (hr14 : ∀ z, r14 z = some y → K z.2.2.2 → K y) (hr40 : ∀ z, r40 z = some y → K z.2.2.2.2.2.2 → K y) (h : fX9_bringInHand_106 r14 r40 v4 v6 v7 v8 v9 v10 sg = some y) (hk : K sg) : K y := by
  unfold fX9_bringInHand_106 at h
  obtain ⟨x1, ex1, h⟩ := p_lt h
  exact hr40 _ h hk
theorem kfX9_bringInHand_40 {K : Sg → Prop} (hK : KW K) {r14 : (Int64 × Int32 × Int32 × Sg) → Option (Sg)} {r40 : (Int64 × Int32 × Int32 × Int32 × Int32 × Int32 × Sg) → Option (Sg)} {v4 : Int64} {v6 : Int32} {v7 : Int32} {v8 : Int32} {v9 : Int32} {v10 : Int32} {sg : Sg} {y : Sg} (hr14 : ∀ z, r14 z = some y → K z.2.2.2 → K y) (hr40 : ∀ z, r40 z = some y → K z.2.2.2.2.2.2 → K y) (h : fX9_bringInHand_40 r14 r40 v4 v6 v7 v8 v9 v10 sg = some y) (hk : K sg) : K y := by
  unfold fX9_bringInHand_40 at h
  rcases p_ite h with h | h
  · skip
    exact kfX9_bringInHand_112 hK hr14 h hk
  · skip
    rcases p_ite h with h | h
    · skip
      obtain ⟨y3, sg4, csg4, h⟩ := p_bnd2 h
      have qsg4 : K sg4 := kfX11_isIn hK  csg4 hk
      rcases p_ite h with h | h
      · skip
        exact kfX9_bringInHand_106 hK hr14 hr40 h qsg4
      · skip
        obtain ⟨x8, ex8, h⟩ := p_lt h
        replace h := p_gin h
        obtain ⟨x10, ex10, h⟩ := p_lt h
        rcases p_ite h with h | h
        · skip
          obtain ⟨x12, ex12, h⟩ := p_lt h
          exact kfX9_bringInHand_106 hK hr14 hr40 h qsg4
        · skip
          exact kfX9_bringInHand_106 hK hr14 hr40 h qsg4
    · skip
      exact kfX9_bringInHand_112 hK hr14 h hk
theorem kLX9_bringInHand_40 {K : Sg → Prop} (hK : KW K) {r14 : (Int64 × Int32 × Int32 × Sg) → Option (Sg)} {y : Sg} (hr14 : ∀ z, r14 z = some y → K z.2.2.2 → K y) : ∀ z, LX9_bringInHand_40 r14 z = some y → K z.2.2.2.2.2.2 → K y := by
  intro z h
  unfold LX9_bringInHand_40 at h
  exact loop_ind (fun rec z => fX9_bringInHand_40 r14 rec z.1 z.2.1 z.2.2.1 z.2.2.2.1 z.2.2.2.2.1 z.2.2.2.2.2.1 z.2.2.2.2.2.2) (y := y) (P := fun z => K z.2.2.2.2.2.2 → K y) (fun rec hrec z h hk => kfX9_bringInHand_40 hK hr14 hrec h hk) z h
theorem kfX9_bringInHand_14 {K : Sg → Prop} (hK : KW K) {r14 : (Int64 × Int32 × Int32 × Sg) → Option (Sg)} {v4 : Int64} {v6 : Int32} {v7 : Int32} {sg : Sg} {y : Sg} (hr14 : ∀ z, r14 z = some y → K z.2.2.2 → K y) (h : fX9_bringInHand_14 r14 v4 v6 v7 sg = some y) (hk : K sg) : K y := by
  unfold fX9_bringInHand_14 at h
  rcases p_ite h with h | h
  · skip
    cases h
    exact hk
  · skip
    obtain ⟨y2, sg3, csg3, h⟩ := p_bnd2 h
    have qsg3 : K sg3 := kfX9_bestChoices hK  csg3 hk
    exact kLX9_bringInHand_40 hK hr14 _ h qsg3
theorem kLX9_bringInHand_14 {K : Sg → Prop} (hK : KW K) {y : Sg} : ∀ z, LX9_bringInHand_14 z = some y → K z.2.2.2 → K y := by
  intro z h
  unfold LX9_bringInHand_14 at h
  exact loop_ind (fun rec z => fX9_bringInHand_14 rec z.1 z.2.1 z.2.2.1 z.2.2.2) (y := y) (P := fun z => K z.2.2.2 → K y) (fun rec hrec z h hk => kfX9_bringInHand_14 hK hrec h hk) z h
theorem kfX9_bringInHand {K : Sg → Prop} (hK : KW K) {v1 : Int64} {sg : Sg} {y : Sg} (h : fX9_bringInHand v1 sg = some y) (hk : K sg) : K y := by
  unfold fX9_bringInHand at h
  obtain ⟨sg1, esg1, h⟩ := p_lt h
  have qsg1 : K sg1 := by rw [esg1]; exact hK.1 _ _ _ _ rfl hk
  exact kLX9_bringInHand_14 hK  _ h qsg1
theorem kfX9_hasLawful {K : Sg → Prop} (hK : KW K) {sg : Sg} {y : Int32 × Sg} (h : fX9_hasLawful sg = some y) (hk : K sg) : K y.2 := by
  unfold fX9_hasLawful at h
  replace h := p_gin h
  rcases p_ite h with h | h
  · skip
    cases h
    exact hk
  · skip
    cases h
    exact hk
theorem kfX9_numberOf_c32_95 {K : Sg → Prop} (hK : KW K) {r19 : (Int64 × Int32 × Int32 × Sg) → Option (Int64 × Sg)} {r62 : (Int64 × Int32 × Int32 × Int32 × Int32 × Int32 × Sg) → Option (Int64 × Sg)} {v2 : Int64} {v4 : Int32} {v5 : Int32} {v6 : Int32} {v7 : Int32} {v8 : Int32} {sg : Sg} {y : Int64 × Sg} (hr19 : ∀ z, r19 z = some y → K z.2.2.2 → K y.2) (hr62 : ∀ z, r62 z = some y → K z.2.2.2.2.2.2 → K y.2) (h : fX9_numberOf_c32_95 r19 r62 v2 v4 v5 v6 v7 v8 sg = some y) (hk : K sg) : K y.2 := by
  unfold fX9_numberOf_c32_95 at h
  obtain ⟨x1, ex1, h⟩ := p_lt h
  exact hr62 _ h hk
theorem kfX9_numberOf_c32_62 {K : Sg → Prop} (hK : KW K) {r19 : (Int64 × Int32 × Int32 × Sg) → Option (Int64 × Sg)} {r62 : (Int64 × Int32 × Int32 × Int32 × Int32 × Int32 × Sg) → Option (Int64 × Sg)} {v2 : Int64} {v4 : Int32} {v5 : Int32} {v6 : Int32} {v7 : Int32} {v8 : Int32} {sg : Sg} {y : Int64 × Sg} (hr19 : ∀ z, r19 z = some y → K z.2.2.2 → K y.2) (hr62 : ∀ z, r62 z = some y → K z.2.2.2.2.2.2 → K y.2) (h : fX9_numberOf_c32_62 r19 r62 v2 v4 v5 v6 v7 v8 sg = some y) (hk : K sg) : K y.2 := by
  unfold fX9_numberOf_c32_62 at h
  rcases p_ite h with h | h
  · skip
    obtain ⟨x2, ex2, h⟩ := p_lt h
    obtain ⟨x3, ex3, h⟩ := p_lt h
    exact hr19 _ h hk
  · skip
    obtain ⟨y4, sg5, csg5, h⟩ := p_bnd2 h
    have qsg5 : K sg5 := kfX11_isIn hK  csg5 hk
    rcases p_ite h with h | h
    · skip
      exact kfX9_numberOf_c32_95 hK hr19 hr62 h qsg5
    · skip
      obtain ⟨x9, ex9, h⟩ := p_lt h
      replace h := p_gin h
      obtain ⟨x11, ex11, h⟩ := p_lt h
      exact kfX9_numberOf_c32_95 hK hr19 hr62 h qsg5
theorem kLX9_numberOf_c32_62 {K : Sg → Prop} (hK : KW K) {r19 : (Int64 × Int32 × Int32 × Sg) → Option (Int64 × Sg)} {y : Int64 × Sg} (hr19 : ∀ z, r19 z = some y → K z.2.2.2 → K y.2) : ∀ z, LX9_numberOf_c32_62 r19 z = some y → K z.2.2.2.2.2.2 → K y.2 := by
  intro z h
  unfold LX9_numberOf_c32_62 at h
  exact loop_ind (fun rec z => fX9_numberOf_c32_62 r19 rec z.1 z.2.1 z.2.2.1 z.2.2.2.1 z.2.2.2.2.1 z.2.2.2.2.2.1 z.2.2.2.2.2.2) (y := y) (P := fun z => K z.2.2.2.2.2.2 → K y.2) (fun rec hrec z h hk => kfX9_numberOf_c32_62 hK hr19 hrec h hk) z h
theorem kfX9_numberOf_c32_19 {K : Sg → Prop} (hK : KW K) {r19 : (Int64 × Int32 × Int32 × Sg) → Option (Int64 × Sg)} {v2 : Int64} {v4 : Int32} {v5 : Int32} {sg : Sg} {y : Int64 × Sg} (hr19 : ∀ z, r19 z = some y → K z.2.2.2 → K y.2) (h : fX9_numberOf_c32_19 r19 v2 v4 v5 sg = some y) (hk : K sg) : K y.2 := by
  unfold fX9_numberOf_c32_19 at h
  rcases p_ite h with h | h
  · skip
    cases h
    exact hk
  · skip
    replace h := p_gin h
    obtain ⟨x3, ex3, h⟩ := p_lt h
    obtain ⟨y4, sg5, csg5, h⟩ := p_bnd2 h
    have qsg5 : K sg5 := kfX9_bestChoices hK  csg5 hk
    obtain ⟨y7, sg8, csg8, h⟩ := p_bnd2 h
    have qsg8 : K sg8 := kfX11_isIn hK  csg8 qsg5
    rcases p_ite h with h | h
    · skip
      cases h
      exact qsg8
    · skip
      exact kLX9_numberOf_c32_62 hK hr19 _ h qsg8
theorem kLX9_numberOf_c32_19 {K : Sg → Prop} (hK : KW K) {y : Int64 × Sg} : ∀ z, LX9_numberOf_c32_19 z = some y → K z.2.2.2 → K y.2 := by
  intro z h
  unfold LX9_numberOf_c32_19 at h
  exact loop_ind (fun rec z => fX9_numberOf_c32_19 rec z.1 z.2.1 z.2.2.1 z.2.2.2) (y := y) (P := fun z => K z.2.2.2 → K y.2) (fun rec hrec z h hk => kfX9_numberOf_c32_19 hK hrec h hk) z h
theorem kfX9_numberOf_c32 {K : Sg → Prop} (hK : KW K) {sg : Sg} {y : Int64 × Sg} (h : fX9_numberOf_c32 sg = some y) (hk : K sg) : K y.2 := by
  unfold fX9_numberOf_c32 at h
  obtain ⟨y1, sg2, csg2, h⟩ := p_bnd2 h
  have qsg2 : K sg2 := kfX9_hasLawful hK  csg2 hk
  rcases p_ite h with h | h
  · skip
    cases h
    exact qsg2
  · skip
    exact kLX9_numberOf_c32_19 hK  _ h qsg2
theorem kfX9_howMany {K : Sg → Prop} (hK : KW K) {sg : Sg} {y : Int64 × Sg} (h : fX9_howMany sg = some y) (hk : K sg) : K y.2 := by
  unfold fX9_howMany at h
  replace h := p_gin h
  cases h
  exact hk
theorem kfX9_leastWeight {K : Sg → Prop} (hK : KW K) {sg : Sg} {y : Int64 × Sg} (h : fX9_leastWeight sg = some y) (hk : K sg) : K y.2 := by
  unfold fX9_leastWeight at h
  replace h := p_gin h
  cases h
  exact hk
theorem kfX8_peckOf {K : Sg → Prop} (hK : KW K) {v1 : Int32} {v2 : Int32} {sg : Sg} {y : Int32 × Sg} (h : fX8_peckOf v1 v2 sg = some y) (hk : K sg) : K y.2 := by
  unfold fX8_peckOf at h
  obtain ⟨x1, ex1, h⟩ := p_lt h
  replace h := p_gin h
  cases h
  exact hk
theorem kfX7_upsetWeight_18 {K : Sg → Prop} (hK : KW K) {r4 : (Int64 × Int32 × Sg) → Option (Int64 × Sg)} {r18 : (Int64 × Int32 × Int32 × Sg) → Option (Int64 × Sg)} {v1 : Int64} {v3 : Int32} {v4 : Int32} {sg : Sg} {y : Int64 × Sg} (hr4 : ∀ z, r4 z = some y → K z.2.2 → K y.2) (hr18 : ∀ z, r18 z = some y → K z.2.2.2 → K y.2) (h : fX7_upsetWeight_18 r4 r18 v1 v3 v4 sg = some y) (hk : K sg) : K y.2 := by
  unfold fX7_upsetWeight_18 at h
  rcases p_ite h with h | h
  · skip
    obtain ⟨x2, ex2, h⟩ := p_lt h
    exact hr4 _ h hk
  · skip
    replace h := p_gin h
    replace h := p_gin h
    obtain ⟨y5, sg6, csg6, h⟩ := p_bnd2 h
    have qsg6 : K sg6 := kfX8_peckOf hK  csg6 hk
    obtain ⟨x8, ex8, h⟩ := p_lt h
    obtain ⟨x9, ex9, h⟩ := p_lt h
    exact hr18 _ h qsg6
theorem kLX7_upsetWeight_18 {K : Sg → Prop} (hK : KW K) {r4 : (Int64 × Int32 × Sg) → Option (Int64 × Sg)} {y : Int64 × Sg} (hr4 : ∀ z, r4 z = some y → K z.2.2 → K y.2) : ∀ z, LX7_upsetWeight_18 r4 z = some y → K z.2.2.2 → K y.2 := by
  intro z h
  unfold LX7_upsetWeight_18 at h
  exact loop_ind (fun rec z => fX7_upsetWeight_18 r4 rec z.1 z.2.1 z.2.2.1 z.2.2.2) (y := y) (P := fun z => K z.2.2.2 → K y.2) (fun rec hrec z h hk => kfX7_upsetWeight_18 hK hr4 hrec h hk) z h
theorem kfX7_upsetWeight_4 {K : Sg → Prop} (hK : KW K) {r4 : (Int64 × Int32 × Sg) → Option (Int64 × Sg)} {v1 : Int64} {v3 : Int32} {sg : Sg} {y : Int64 × Sg} (hr4 : ∀ z, r4 z = some y → K z.2.2 → K y.2) (h : fX7_upsetWeight_4 r4 v1 v3 sg = some y) (hk : K sg) : K y.2 := by
  unfold fX7_upsetWeight_4 at h
  rcases p_ite h with h | h
  · skip
    cases h
    exact hk
  · skip
    exact kLX7_upsetWeight_18 hK hr4 _ h hk
theorem kLX7_upsetWeight_4 {K : Sg → Prop} (hK : KW K) {y : Int64 × Sg} : ∀ z, LX7_upsetWeight_4 z = some y → K z.2.2 → K y.2 := by
  intro z h
  unfold LX7_upsetWeight_4 at h
  exact loop_ind (fun rec z => fX7_upsetWeight_4 rec z.1 z.2.1 z.2.2) (y := y) (P := fun z => K z.2.2 → K y.2) (fun rec hrec z h hk => kfX7_upsetWeight_4 hK hrec h hk) z h
theorem kfX7_upsetWeight {K : Sg → Prop} (hK : KW K) {sg : Sg} {y : Int64 × Sg} (h : fX7_upsetWeight sg = some y) (hk : K sg) : K y.2 := by
  unfold fX7_upsetWeight at h
  exact kLX7_upsetWeight_4 hK  _ h hk
theorem kfX7_isKept {K : Sg → Prop} (hK : KW K) {v1 : Int32} {sg : Sg} {y : Int32 × Sg} (h : fX7_isKept v1 sg = some y) (hk : K sg) : K y.2 := by
  unfold fX7_isKept at h
  replace h := p_gin h
  obtain ⟨x2, ex2, h⟩ := p_lt h
  rcases p_ite h with h | h
  · skip
    cases h
    exact hk
  · skip
    replace h := p_gin h
    replace h := p_gin h
    obtain ⟨x6, ex6, h⟩ := p_lt h
    replace h := p_gin h
    obtain ⟨x8, ex8, h⟩ := p_lt h
    rcases p_ite h with h | h
    · skip
      rcases p_ite h with h | h
      · skip
        cases h
        exact hk
      · skip
        cases h
        exact hk
    · skip
      rcases p_ite h with h | h
      · skip
        rcases p_ite h with h | h
        · skip
          cases h
          exact hk
        · skip
          cases h
          exact hk
      · skip
        rcases p_ite h with h | h
        · skip
          rcases p_ite h with h | h
          · skip
            cases h
            exact hk
          · skip
            cases h
            exact hk
        · skip
          cases h
          exact hk
theorem kfX7_leastFault_2 {K : Sg → Prop} (hK : KW K) {r2 : (Int32 × Sg) → Option (Int64 × Sg)} {v1 : Int32} {sg : Sg} {y : Int64 × Sg} (hr2 : ∀ z, r2 z = some y → K z.2 → K y.2) (h : fX7_leastFault_2 r2 v1 sg = some y) (hk : K sg) : K y.2 := by
  unfold fX7_leastFault_2 at h
  rcases p_ite h with h | h
  · skip
    cases h
    exact hk
  · skip
    obtain ⟨y2, sg3, csg3, h⟩ := p_bnd2 h
    have qsg3 : K sg3 := kfX7_isKept hK  csg3 hk
    rcases p_ite h with h | h
    · skip
      replace h := p_gin h
      cases h
      exact qsg3
    · skip
      obtain ⟨x6, ex6, h⟩ := p_lt h
      exact hr2 _ h qsg3
theorem kLX7_leastFault_2 {K : Sg → Prop} (hK : KW K) {y : Int64 × Sg} : ∀ z, LX7_leastFault_2 z = some y → K z.2 → K y.2 := by
  intro z h
  unfold LX7_leastFault_2 at h
  exact loop_ind (fun rec z => fX7_leastFault_2 rec z.1 z.2) (y := y) (P := fun z => K z.2 → K y.2) (fun rec hrec z h hk => kfX7_leastFault_2 hK hrec h hk) z h
theorem kfX7_leastFault {K : Sg → Prop} (hK : KW K) {sg : Sg} {y : Int64 × Sg} (h : fX7_leastFault sg = some y) (hk : K sg) : K y.2 := by
  unfold fX7_leastFault at h
  exact kLX7_leastFault_2 hK  _ h hk
theorem kfX7_writeTo_7 {K : Sg → Prop} (hK : KW K) {r7 : (Int32 × Sg) → Option (Sg)} {v2 : Int32} {sg : Sg} {y : Sg} (hr7 : ∀ z, r7 z = some y → K z.2 → K y) (h : fX7_writeTo_7 r7 v2 sg = some y) (hk : K sg) : K y := by
  unfold fX7_writeTo_7 at h
  rcases p_ite h with h | h
  · skip
    cases h
    exact hk
  · skip
    replace h := p_gin h
    obtain ⟨x3, ex3, h⟩ := p_lt h
    replace h := p_gin h
    obtain ⟨sg5, csg5, h⟩ := p_bnd1 h
    have qsg5 : K sg5 := kfX5_append hK  csg5 hk
    obtain ⟨x7, ex7, h⟩ := p_lt h
    exact hr7 _ h qsg5
theorem kLX7_writeTo_7 {K : Sg → Prop} (hK : KW K) {y : Sg} : ∀ z, LX7_writeTo_7 z = some y → K z.2 → K y := by
  intro z h
  unfold LX7_writeTo_7 at h
  exact loop_ind (fun rec z => fX7_writeTo_7 rec z.1 z.2) (y := y) (P := fun z => K z.2 → K y) (fun rec hrec z h hk => kfX7_writeTo_7 hK hrec h hk) z h
theorem kfX7_writeTo {K : Sg → Prop} (hK : KW K) {sg : Sg} {y : Sg} (h : fX7_writeTo sg = some y) (hk : K sg) : K y := by
  unfold fX7_writeTo at h
  obtain ⟨sg1, esg1, h⟩ := p_lt h
  have qsg1 : K sg1 := by rw [esg1]; exact hK.1 _ _ _ _ rfl hk
  exact kLX7_writeTo_7 hK  _ h qsg1
theorem kfX11_better_56 {K : Sg → Prop} (hK : KW K) {v2 : Int32} {sg : Sg} {y : Int64 × Sg} (h : fX11_better_56 v2 sg = some y) (hk : K sg) : K y.2 := by
  unfold fX11_better_56 at h
  obtain ⟨sg1, csg1, h⟩ := p_bnd1 h
  have qsg1 : K sg1 := kfX7_writeTo hK  csg1 hk
  cases h
  exact qsg1
theorem kfX11_shift_c32_32 {K : Sg → Prop} (hK : KW K) {r32 : (Int32 × Int32 × Int32 × Sg) → Option (Sg)} {v2 : Int32} {v3 : Int32} {v4 : Int32} {sg : Sg} {y : Sg} (hr32 : ∀ z, r32 z = some y → K z.2.2.2 → K y) (h : fX11_shift_c32_32 r32 v2 v3 v4 sg = some y) (hk : K sg) : K y := by
  unfold fX11_shift_c32_32 at h
  rcases p_ite h with h | h
  · skip
    replace h := p_gin h
    obtain ⟨sg3, esg3, h⟩ := p_lt h
    have qsg3 : K sg3 := by rw [esg3]; exact hK.1 _ _ _ _ rfl hk
    cases h
    exact qsg3
  · skip
    obtain ⟨x4, ex4, h⟩ := p_lt h
    replace h := p_gin h
    obtain ⟨x6, ex6, h⟩ := p_lt h
    replace h := p_gin h
    obtain ⟨sg8, esg8, h⟩ := p_lt h
    have qsg8 : K sg8 := by rw [esg8]; exact hK.1 _ _ _ _ rfl hk
    obtain ⟨x9, ex9, h⟩ := p_lt h
    exact hr32 _ h qsg8
theorem kLX11_shift_c32_32 {K : Sg → Prop} (hK : KW K) {y : Sg} : ∀ z, LX11_shift_c32_32 z = some y → K z.2.2.2 → K y := by
  intro z h
  unfold LX11_shift_c32_32 at h
  exact loop_ind (fun rec z => fX11_shift_c32_32 rec z.1 z.2.1 z.2.2.1 z.2.2.2) (y := y) (P := fun z => K z.2.2.2 → K y) (fun rec hrec z h hk => kfX11_shift_c32_32 hK hrec h hk) z h
theorem kfX11_shift_c32_7 {K : Sg → Prop} (hK : KW K) {r7 : (Int32 × Int32 × Int32 × Int32 × Sg) → Option (Sg)} {v1 : Int32} {v2 : Int32} {v3 : Int32} {v4 : Int32} {sg : Sg} {y : Sg} (hr7 : ∀ z, r7 z = some y → K z.2.2.2.2 → K y) (h : fX11_shift_c32_7 r7 v1 v2 v3 v4 sg = some y) (hk : K sg) : K y := by
  unfold fX11_shift_c32_7 at h
  rcases p_ite h with h | h
  · skip
    exact kLX11_shift_c32_32 hK  _ h hk
  · skip
    obtain ⟨x2, ex2, h⟩ := p_lt h
    replace h := p_gin h
    obtain ⟨x4, ex4, h⟩ := p_lt h
    replace h := p_gin h
    obtain ⟨sg6, esg6, h⟩ := p_lt h
    have qsg6 : K sg6 := by rw [esg6]; exact hK.1 _ _ _ _ rfl hk
    obtain ⟨x7, ex7, h⟩ := p_lt h
    exact hr7 _ h qsg6
theorem kLX11_shift_c32_7 {K : Sg → Prop} (hK : KW K) {y : Sg} : ∀ z, LX11_shift_c32_7 z = some y → K z.2.2.2.2 → K y := by
  intro z h
  unfold LX11_shift_c32_7 at h
  exact loop_ind (fun rec z => fX11_shift_c32_7 rec z.1 z.2.1 z.2.2.1 z.2.2.2.1 z.2.2.2.2) (y := y) (P := fun z => K z.2.2.2.2 → K y) (fun rec hrec z h hk => kfX11_shift_c32_7 hK hrec h hk) z h
theorem kfX11_shift_c32 {K : Sg → Prop} (hK : KW K) {v1 : Int32} {v2 : Int32} {sg : Sg} {y : Sg} (h : fX11_shift_c32 v1 v2 sg = some y) (hk : K sg) : K y := by
  unfold fX11_shift_c32 at h
  replace h := p_gin h
  obtain ⟨x2, ex2, h⟩ := p_lt h
  exact kLX11_shift_c32_7 hK  _ h hk
theorem kfX7_moveSlot_15 {K : Sg → Prop} (hK : KW K) {r15 : (Int32 × Int32 × Int32 × Sg) → Option (Sg)} {v1 : Int32} {v2 : Int32} {v3 : Int32} {sg : Sg} {y : Sg} (hr15 : ∀ z, r15 z = some y → K z.2.2.2 → K y) (h : fX7_moveSlot_15 r15 v1 v2 v3 sg = some y) (hk : K sg) : K y := by
  unfold fX7_moveSlot_15 at h
  rcases p_ite h with h | h
  · skip
    cases h
    exact hk
  · skip
    replace h := p_gin h
    replace h := p_gin h
    obtain ⟨sg4, esg4, h⟩ := p_lt h
    have qsg4 : K sg4 := by rw [esg4]; exact hK.1 _ _ _ _ rfl hk
    obtain ⟨x5, ex5, h⟩ := p_lt h
    exact hr15 _ h qsg4
theorem kLX7_moveSlot_15 {K : Sg → Prop} (hK : KW K) {y : Sg} : ∀ z, LX7_moveSlot_15 z = some y → K z.2.2.2 → K y := by
  intro z h
  unfold LX7_moveSlot_15 at h
  exact loop_ind (fun rec z => fX7_moveSlot_15 rec z.1 z.2.1 z.2.2.1 z.2.2.2) (y := y) (P := fun z => K z.2.2.2 → K y) (fun rec hrec z h hk => kfX7_moveSlot_15 hK hrec h hk) z h
theorem kfX7_moveSlot {K : Sg → Prop} (hK : KW K) {v1 : Int32} {v2 : Int32} {sg : Sg} {y : Sg} (h : fX7_moveSlot v1 v2 sg = some y) (hk : K sg) : K y := by
  unfold fX7_moveSlot at h
  obtain ⟨sg1, csg1, h⟩ := p_bnd1 h
  have qsg1 : K sg1 := kfX11_shift_c32 hK  csg1 hk
  obtain ⟨x4, ex4, h⟩ := p_lt h
  exact kLX7_moveSlot_15 hK  _ h qsg1
theorem kfX7_weighMoves_83 {K : Sg → Prop} (hK : KW K) {r83 : (Int32 × Int32 × Sg) → Option (Sg)} {v2 : Int32} {v3 : Int32} {sg : Sg} {y : Sg} (hr83 : ∀ z, r83 z = some y → K z.2.2 → K y) (h : fX7_weighMoves_83 r83 v2 v3 sg = some y) (hk : K sg) : K y := by
  unfold fX7_weighMoves_83 at h
  rcases p_ite h with h | h
  · skip
    cases h
    exact hk
  · skip
    obtain ⟨x2, ex2, h⟩ := p_lt h
    replace h := p_gin h
    replace h := p_gin h
    obtain ⟨y5, sg6, csg6, h⟩ := p_bnd2 h
    have qsg6 : K sg6 := kfX8_peckOf hK  csg6 hk
    replace h := p_gin h
    obtain ⟨y9, sg10, csg10, h⟩ := p_bnd2 h
    have qsg10 : K sg10 := kfX8_peckOf hK  csg10 qsg6
    obtain ⟨x12, ex12, h⟩ := p_lt h
    replace h := p_gin h
    obtain ⟨sg14, esg14, h⟩ := p_lt h
    have qsg14 : K sg14 := by rw [esg14]; exact hK.1 _ _ _ _ rfl qsg10
    obtain ⟨x15, ex15, h⟩ := p_lt h
    exact hr83 _ h qsg14
theorem kLX7_weighMoves_83 {K : Sg → Prop} (hK : KW K) {y : Sg} : ∀ z, LX7_weighMoves_83 z = some y → K z.2.2 → K y := by
  intro z h
  unfold LX7_weighMoves_83 at h
  exact loop_ind (fun rec z => fX7_weighMoves_83 rec z.1 z.2.1 z.2.2) (y := y) (P := fun z => K z.2.2 → K y) (fun rec hrec z h hk => kfX7_weighMoves_83 hK hrec h hk) z h
theorem kfX7_weighMoves_18 {K : Sg → Prop} (hK : KW K) {r18 : (Int32 × Int32 × Int32 × Sg) → Option (Sg)} {v1 : Int32} {v2 : Int32} {v3 : Int32} {sg : Sg} {y : Sg} (hr18 : ∀ z, r18 z = some y → K z.2.2.2 → K y) (h : fX7_weighMoves_18 r18 v1 v2 v3 sg = some y) (hk : K sg) : K y := by
  unfold fX7_weighMoves_18 at h
  rcases p_ite h with h | h
  · skip
    obtain ⟨x2, ex2, h⟩ := p_lt h
    exact kLX7_weighMoves_83 hK  _ h hk
  · skip
    obtain ⟨x3, ex3, h⟩ := p_lt h
    replace h := p_gin h
    replace h := p_gin h
    obtain ⟨y6, sg7, csg7, h⟩ := p_bnd2 h
    have qsg7 : K sg7 := kfX8_peckOf hK  csg7 hk
    replace h := p_gin h
    obtain ⟨y10, sg11, csg11, h⟩ := p_bnd2 h
    have qsg11 : K sg11 := kfX8_peckOf hK  csg11 qsg7
    obtain ⟨x13, ex13, h⟩ := p_lt h
    replace h := p_gin h
    obtain ⟨sg15, esg15, h⟩ := p_lt h
    have qsg15 : K sg15 := by rw [esg15]; exact hK.1 _ _ _ _ rfl qsg11
    obtain ⟨x16, ex16, h⟩ := p_lt h
    exact hr18 _ h qsg15
theorem kLX7_weighMoves_18 {K : Sg → Prop} (hK : KW K) {y : Sg} : ∀ z, LX7_weighMoves_18 z = some y → K z.2.2.2 → K y := by
  intro z h
  unfold LX7_weighMoves_18 at h
  exact loop_ind (fun rec z => fX7_weighMoves_18 rec z.1 z.2.1 z.2.2.1 z.2.2.2) (y := y) (P := fun z => K z.2.2.2 → K y) (fun rec hrec z h hk => kfX7_weighMoves_18 hK hrec h hk) z h
theorem kfX7_weighMoves {K : Sg → Prop} (hK : KW K) {v1 : Int32} {sg : Sg} {y : Sg} (h : fX7_weighMoves v1 sg = some y) (hk : K sg) : K y := by
  unfold fX7_weighMoves at h
  replace h := p_gin h
  obtain ⟨x2, ex2, h⟩ := p_lt h
  replace h := p_gin h
  obtain ⟨sg4, esg4, h⟩ := p_lt h
  have qsg4 : K sg4 := by rw [esg4]; exact hK.1 _ _ _ _ rfl hk
  obtain ⟨x5, ex5, h⟩ := p_lt h
  exact kLX7_weighMoves_18 hK  _ h qsg4
theorem kfX7_improve_87 {K : Sg → Prop} (hK : KW K) {r9 : (Int32 × Int32 × Int32 × Int32 × Sg) → Option (Int32 × Sg)} {r39 : (Int32 × Int32 × Int32 × Int32 × Int32 × Int32 × Sg) → Option (Int32 × Sg)} {v1 : Int32} {v2 : Int32} {v3 : Int32} {v4 : Int32} {v5 : Int32} {v6 : Int32} {sg : Sg} {y : Int32 × Sg} (hr9 : ∀ z, r9 z = some y → K z.2.2.2.2 → K y.2) (hr39 : ∀ z, r39 z = some y → K z.2.2.2.2.2.2 → K y.2) (h : fX7_improve_87 r9 r39 v1 v2 v3 v4 v5 v6 sg = some y) (hk : K sg) : K y.2 := by
  unfold fX7_improve_87 at h
  obtain ⟨x1, ex1, h⟩ := p_lt h
  exact hr39 _ h hk
theorem kfX7_isLawfulAfter_22 {K : Sg → Prop} (hK : KW K) {v1 : Int32} {v2 : Int32} {w0 : Int32} {sg : Sg} {y : Int32 × Sg} (h : fX7_isLawfulAfter_22 v1 v2 w0 sg = some y) (hk : K sg) : K y.2 := by
  unfold fX7_isLawfulAfter_22 at h
  obtain ⟨sg1, csg1, h⟩ := p_bnd1 h
  have qsg1 : K sg1 := kfX7_moveSlot hK  csg1 hk
  replace h := p_gz h
  cases h
  exact qsg1
theorem kfX7_isLawfulAfter {K : Sg → Prop} (hK : KW K) {v1 : Int32} {v2 : Int32} {sg : Sg} {y : Int32 × Sg} (h : fX7_isLawfulAfter v1 v2 sg = some y) (hk : K sg) : K y.2 := by
  unfold fX7_isLawfulAfter at h
  obtain ⟨sg1, csg1, h⟩ := p_bnd1 h
  have qsg1 : K sg1 := kfX7_moveSlot hK  csg1 hk
  obtain ⟨y3, sg4, csg4, h⟩ := p_bnd2 h
  have qsg4 : K sg4 := kfX7_leastFault hK  csg4 qsg1
  rcases p_ite h with h | h
  · skip
    exact kfX7_isLawfulAfter_22 hK  h qsg4
  · skip
    exact kfX7_isLawfulAfter_22 hK  h qsg4
theorem kfX7_improve_39 {K : Sg → Prop} (hK : KW K) {r9 : (Int32 × Int32 × Int32 × Int32 × Sg) → Option (Int32 × Sg)} {r39 : (Int32 × Int32 × Int32 × Int32 × Int32 × Int32 × Sg) → Option (Int32 × Sg)} {v1 : Int32} {v2 : Int32} {v3 : Int32} {v4 : Int32} {v5 : Int32} {v6 : Int32} {sg : Sg} {y : Int32 × Sg} (hr9 : ∀ z, r9 z = some y → K z.2.2.2.2 → K y.2) (hr39 : ∀ z, r39 z = some y → K z.2.2.2.2.2.2 → K y.2) (h : fX7_improve_39 r9 r39 v1 v2 v3 v4 v5 v6 sg = some y) (hk : K sg) : K y.2 := by
  unfold fX7_improve_39 at h
  rcases p_ite h with h | h
  · skip
    obtain ⟨x2, ex2, h⟩ := p_lt h
    exact hr9 _ h hk
  · skip
    replace h := p_gin h
    rcases p_ite h with h | h
    · skip
      exact kfX7_improve_87 hK hr9 hr39 h hk
    · skip
      obtain ⟨y5, sg6, csg6, h⟩ := p_bnd2 h
      have qsg6 : K sg6 := kfX7_isLawfulAfter hK  csg6 hk
      rcases p_ite h with h | h
      · skip
        exact kfX7_improve_87 hK hr9 hr39 h qsg6
      · skip
        replace h := p_gin h
        obtain ⟨x10, ex10, h⟩ := p_lt h
        exact kfX7_improve_87 hK hr9 hr39 h qsg6
theorem kLX7_improve_39 {K : Sg → Prop} (hK : KW K) {r9 : (Int32 × Int32 × Int32 × Int32 × Sg) → Option (Int32 × Sg)} {y : Int32 × Sg} (hr9 : ∀ z, r9 z = some y → K z.2.2.2.2 → K y.2) : ∀ z, LX7_improve_39 r9 z = some y → K z.2.2.2.2.2.2 → K y.2 := by
  intro z h
  unfold LX7_improve_39 at h
  exact loop_ind (fun rec z => fX7_improve_39 r9 rec z.1 z.2.1 z.2.2.1 z.2.2.2.1 z.2.2.2.2.1 z.2.2.2.2.2.1 z.2.2.2.2.2.2) (y := y) (P := fun z => K z.2.2.2.2.2.2 → K y.2) (fun rec hrec z h hk => kfX7_improve_39 hK hr9 hrec h hk) z h
theorem kfX7_improve_9 {K : Sg → Prop} (hK : KW K) {r9 : (Int32 × Int32 × Int32 × Int32 × Sg) → Option (Int32 × Sg)} {v1 : Int32} {v2 : Int32} {v3 : Int32} {v4 : Int32} {sg : Sg} {y : Int32 × Sg} (hr9 : ∀ z, r9 z = some y → K z.2.2.2.2 → K y.2) (h : fX7_improve_9 r9 v1 v2 v3 v4 sg = some y) (hk : K sg) : K y.2 := by
  unfold fX7_improve_9 at h
  rcases p_ite h with h | h
  · skip
    rcases p_ite h with h | h
    · skip
      cases h
      exact hk
    · skip
      obtain ⟨sg3, csg3, h⟩ := p_bnd1 h
      have qsg3 : K sg3 := kfX7_moveSlot hK  csg3 hk
      cases h
      exact qsg3
  · skip
    replace h := p_gin h
    obtain ⟨x6, ex6, h⟩ := p_lt h
    obtain ⟨sg7, csg7, h⟩ := p_bnd1 h
    have qsg7 : K sg7 := kfX7_weighMoves hK  csg7 hk
    exact kLX7_improve_39 hK hr9 _ h qsg7
theorem kLX7_improve_9 {K : Sg → Prop} (hK : KW K) {y : Int32 × Sg} : ∀ z, LX7_improve_9 z = some y → K z.2.2.2.2 → K y.2 := by
  intro z h
  unfold LX7_improve_9 at h
  exact loop_ind (fun rec z => fX7_improve_9 rec z.1 z.2.1 z.2.2.1 z.2.2.2.1 z.2.2.2.2) (y := y) (P := fun z => K z.2.2.2.2 → K y.2) (fun rec hrec z h hk => kfX7_improve_9 hK hrec h hk) z h
theorem kfX7_improve {K : Sg → Prop} (hK : KW K) {sg : Sg} {y : Int32 × Sg} (h : fX7_improve sg = some y) (hk : K sg) : K y.2 := by
  unfold fX7_improve at h
  exact kLX7_improve_9 hK  _ h hk
theorem kfX11_better_35 {K : Sg → Prop} (hK : KW K) {r35 : (Int32 × Int32 × Sg) → Option (Int64 × Sg)} {v1 : Int32} {v2 : Int32} {sg : Sg} {y : Int64 × Sg} (hr35 : ∀ z, r35 z = some y → K z.2.2 → K y.2) (h : fX11_better_35 r35 v1 v2 sg = some y) (hk : K sg) : K y.2 := by
  unfold fX11_better_35 at h
  rcases p_ite h with h | h
  · skip
    exact kfX11_better_56 hK  h hk
  · skip
    obtain ⟨y2, sg3, csg3, h⟩ := p_bnd2 h
    have qsg3 : K sg3 := kfX7_improve hK  csg3 hk
    rcases p_ite h with h | h
    · skip
      exact kfX11_better_56 hK  h qsg3
    · skip
      obtain ⟨x6, ex6, h⟩ := p_lt h
      exact hr35 _ h qsg3
theorem kLX11_better_35 {K : Sg → Prop} (hK : KW K) {y : Int64 × Sg} : ∀ z, LX11_better_35 z = some y → K z.2.2 → K y.2 := by
  intro z h
  unfold LX11_better_35 at h
  exact loop_ind (fun rec z => fX11_better_35 rec z.1 z.2.1 z.2.2) (y := y) (P := fun z => K z.2.2 → K y.2) (fun rec hrec z h hk => kfX11_better_35 hK hrec h hk) z h
theorem kfX3_followPecks_125 {K : Sg → Prop} (hK : KW K) {r73 : (Int32 × Sg) → Option (Sg)} {r86 : (Int32 × Int32 × Sg) → Option (Sg)} {v1 : Int32} {v2 : Int32} {sg : Sg} {y : Sg} (hr73 : ∀ z, r73 z = some y → K z.2 → K y) (hr86 : ∀ z, r86 z = some y → K z.2.2 → K y) (h : fX3_followPecks_125 r73 r86 v1 v2 sg = some y) (hk : K sg) : K y := by
  unfold fX3_followPecks_125 at h
  obtain ⟨x1, ex1, h⟩ := p_lt h
  exact hr86 _ h hk
theorem kfX3_followPecks_86 {K : Sg → Prop} (hK : KW K) {r73 : (Int32 × Sg) → Option (Sg)} {r86 : (Int32 × Int32 × Sg) → Option (Sg)} {v1 : Int32} {v2 : Int32} {sg : Sg} {y : Sg} (hr73 : ∀ z, r73 z = some y → K z.2 → K y) (hr86 : ∀ z, r86 z = some y → K z.2.2 → K y) (h : fX3_followPecks_86 r73 r86 v1 v2 sg = some y) (hk : K sg) : K y := by
  unfold fX3_followPecks_86 at h
  rcases p_ite h with h | h
  · skip
    obtain ⟨x2, ex2, h⟩ := p_lt h
    exact hr73 _ h hk
  · skip
    replace h := p_gin h
    obtain ⟨y4, sg5, csg5, h⟩ := p_bnd2 h
    have qsg5 : K sg5 := kfX11_isIn hK  csg5 hk
    rcases p_ite h with h | h
    · skip
      exact kfX3_followPecks_125 hK hr73 hr86 h qsg5
    · skip
      replace h := p_gin h
      replace h := p_gin h
      obtain ⟨x11, ex11, h⟩ := p_lt h
      replace h := p_gin h
      obtain ⟨sg13, esg13, h⟩ := p_lt h
      have qsg13 : K sg13 := by rw [esg13]; exact hK.1 _ _ _ _ rfl qsg5
      exact kfX3_followPecks_125 hK hr73 hr86 h qsg13
theorem kLX3_followPecks_86 {K : Sg → Prop} (hK : KW K) {r73 : (Int32 × Sg) → Option (Sg)} {y : Sg} (hr73 : ∀ z, r73 z = some y → K z.2 → K y) : ∀ z, LX3_followPecks_86 r73 z = some y → K z.2.2 → K y := by
  intro z h
  unfold LX3_followPecks_86 at h
  exact loop_ind (fun rec z => fX3_followPecks_86 r73 rec z.1 z.2.1 z.2.2) (y := y) (P := fun z => K z.2.2 → K y) (fun rec hrec z h hk => kfX3_followPecks_86 hK hr73 hrec h hk) z h
theorem kfX3_followPecks_73 {K : Sg → Prop} (hK : KW K) {r73 : (Int32 × Sg) → Option (Sg)} {v1 : Int32} {sg : Sg} {y : Sg} (hr73 : ∀ z, r73 z = some y → K z.2 → K y) (h : fX3_followPecks_73 r73 v1 sg = some y) (hk : K sg) : K y := by
  unfold fX3_followPecks_73 at h
  rcases p_ite h with h | h
  · skip
    cases h
    exact hk
  · skip
    exact kLX3_followPecks_86 hK hr73 _ h hk
theorem kLX3_followPecks_73 {K : Sg → Prop} (hK : KW K) {y : Sg} : ∀ z, LX3_followPecks_73 z = some y → K z.2 → K y := by
  intro z h
  unfold LX3_followPecks_73 at h
  exact loop_ind (fun rec z => fX3_followPecks_73 rec z.1 z.2) (y := y) (P := fun z => K z.2 → K y) (fun rec hrec z h hk => kfX3_followPecks_73 hK hrec h hk) z h
theorem kfX3_followPecks_59 {K : Sg → Prop} (hK : KW K) {r2 : (Int32 × Sg) → Option (Sg)} {r24 : (Int32 × Int32 × Sg) → Option (Sg)} {v1 : Int32} {v2 : Int32} {sg : Sg} {y : Sg} (hr2 : ∀ z, r2 z = some y → K z.2 → K y) (hr24 : ∀ z, r24 z = some y → K z.2.2 → K y) (h : fX3_followPecks_59 r2 r24 v1 v2 sg = some y) (hk : K sg) : K y := by
  unfold fX3_followPecks_59 at h
  obtain ⟨x1, ex1, h⟩ := p_lt h
  exact hr24 _ h hk
theorem kfX3_followPecks_24 {K : Sg → Prop} (hK : KW K) {r2 : (Int32 × Sg) → Option (Sg)} {r24 : (Int32 × Int32 × Sg) → Option (Sg)} {v1 : Int32} {v2 : Int32} {sg : Sg} {y : Sg} (hr2 : ∀ z, r2 z = some y → K z.2 → K y) (hr24 : ∀ z, r24 z = some y → K z.2.2 → K y) (h : fX3_followPecks_24 r2 r24 v1 v2 sg = some y) (hk : K sg) : K y := by
  unfold fX3_followPecks_24 at h
  rcases p_ite h with h | h
  · skip
    obtain ⟨x2, ex2, h⟩ := p_lt h
    exact hr2 _ h hk
  · skip
    obtain ⟨y3, sg4, csg4, h⟩ := p_bnd2 h
    have qsg4 : K sg4 := kfX8_peckOf hK  csg4 hk
    rcases p_ite h with h | h
    · skip
      exact kfX3_followPecks_59 hK hr2 hr24 h qsg4
    · skip
      replace h := p_gin h
      obtain ⟨x8, ex8, h⟩ := p_lt h
      replace h := p_gin h
      obtain ⟨sg10, esg10, h⟩ := p_lt h
      have qsg10 : K sg10 := by rw [esg10]; exact hK.1 _ _ _ _ rfl qsg4
      exact kfX3_followPecks_59 hK hr2 hr24 h qsg10
theorem kLX3_followPecks_24 {K : Sg → Prop} (hK : KW K) {r2 : (Int32 × Sg) → Option (Sg)} {y : Sg} (hr2 : ∀ z, r2 z = some y → K z.2 → K y) : ∀ z, LX3_followPecks_24 r2 z = some y → K z.2.2 → K y := by
  intro z h
  unfold LX3_followPecks_24 at h
  exact loop_ind (fun rec z => fX3_followPecks_24 r2 rec z.1 z.2.1 z.2.2) (y := y) (P := fun z => K z.2.2 → K y) (fun rec hrec z h hk => kfX3_followPecks_24 hK hr2 hrec h hk) z h
theorem kfX3_followPecks_2 {K : Sg → Prop} (hK : KW K) {r2 : (Int32 × Sg) → Option (Sg)} {v1 : Int32} {sg : Sg} {y : Sg} (hr2 : ∀ z, r2 z = some y → K z.2 → K y) (h : fX3_followPecks_2 r2 v1 sg = some y) (hk : K sg) : K y := by
  unfold fX3_followPecks_2 at h
  rcases p_ite h with h | h
  · skip
    exact kLX3_followPecks_73 hK  _ h hk
  · skip
    obtain ⟨x2, ex2, h⟩ := p_lt h
    replace h := p_gin h
    obtain ⟨sg4, esg4, h⟩ := p_lt h
    have qsg4 : K sg4 := by rw [esg4]; exact hK.1 _ _ _ _ rfl hk
    exact kLX3_followPecks_24 hK hr2 _ h qsg4
theorem kLX3_followPecks_2 {K : Sg → Prop} (hK : KW K) {y : Sg} : ∀ z, LX3_followPecks_2 z = some y → K z.2 → K y := by
  intro z h
  unfold LX3_followPecks_2 at h
  exact loop_ind (fun rec z => fX3_followPecks_2 rec z.1 z.2) (y := y) (P := fun z => K z.2 → K y) (fun rec hrec z h hk => kfX3_followPecks_2 hK hrec h hk) z h
theorem kfX3_followPecks {K : Sg → Prop} (hK : KW K) {sg : Sg} {y : Sg} (h : fX3_followPecks sg = some y) (hk : K sg) : K y := by
  unfold fX3_followPecks at h
  exact kLX3_followPecks_2 hK  _ h hk
theorem kfJ7_fill_53178_c41_5 {K : Sg → Prop} (hK : KW K) {r5 : (Int32 × Int32 × Int32 × Sg) → Option (Sg)} {v1 : Int32} {v2 : Int32} {v3 : Int32} {sg : Sg} {y : Sg} (hr5 : ∀ z, r5 z = some y → K z.2.2.2 → K y) (h : fJ7_fill_53178_c41_5 r5 v1 v2 v3 sg = some y) (hk : K sg) : K y := by
  unfold fJ7_fill_53178_c41_5 at h
  rcases p_ite h with h | h
  · skip
    cases h
    exact hk
  · skip
    replace h := p_gin h
    obtain ⟨sg3, esg3, h⟩ := p_lt h
    have qsg3 : K sg3 := by rw [esg3]; exact hK.1 _ _ _ _ rfl hk
    obtain ⟨x4, ex4, h⟩ := p_lt h
    exact hr5 _ h qsg3
theorem kLJ7_fill_53178_c41_5 {K : Sg → Prop} (hK : KW K) {y : Sg} : ∀ z, LJ7_fill_53178_c41_5 z = some y → K z.2.2.2 → K y := by
  intro z h
  unfold LJ7_fill_53178_c41_5 at h
  exact loop_ind (fun rec z => fJ7_fill_53178_c41_5 rec z.1 z.2.1 z.2.2.1 z.2.2.2) (y := y) (P := fun z => K z.2.2.2 → K y) (fun rec hrec z h hk => kfJ7_fill_53178_c41_5 hK hrec h hk) z h
theorem kfJ7_fill_53178_c41 {K : Sg → Prop} (hK : KW K) {v1 : Int32} {sg : Sg} {y : Sg} (h : fJ7_fill_53178_c41 v1 sg = some y) (hk : K sg) : K y := by
  unfold fJ7_fill_53178_c41 at h
  exact kLJ7_fill_53178_c41_5 hK  _ h hk
theorem kfJ7_fill_53178_c42_5 {K : Sg → Prop} (hK : KW K) {r5 : (Int32 × Int32 × Int32 × Sg) → Option (Sg)} {v1 : Int32} {v2 : Int32} {v3 : Int32} {sg : Sg} {y : Sg} (hr5 : ∀ z, r5 z = some y → K z.2.2.2 → K y) (h : fJ7_fill_53178_c42_5 r5 v1 v2 v3 sg = some y) (hk : K sg) : K y := by
  unfold fJ7_fill_53178_c42_5 at h
  rcases p_ite h with h | h
  · skip
    cases h
    exact hk
  · skip
    replace h := p_gin h
    obtain ⟨sg3, esg3, h⟩ := p_lt h
    have qsg3 : K sg3 := by rw [esg3]; exact hK.1 _ _ _ _ rfl hk
    obtain ⟨x4, ex4, h⟩ := p_lt h
    exact hr5 _ h qsg3
theorem kLJ7_fill_53178_c42_5 {K : Sg → Prop} (hK : KW K) {y : Sg} : ∀ z, LJ7_fill_53178_c42_5 z = some y → K z.2.2.2 → K y := by
  intro z h
  unfold LJ7_fill_53178_c42_5 at h
  exact loop_ind (fun rec z => fJ7_fill_53178_c42_5 rec z.1 z.2.1 z.2.2.1 z.2.2.2) (y := y) (P := fun z => K z.2.2.2 → K y) (fun rec hrec z h hk => kfJ7_fill_53178_c42_5 hK hrec h hk) z h
theorem kfJ7_fill_53178_c42 {K : Sg → Prop} (hK : KW K) {v1 : Int32} {sg : Sg} {y : Sg} (h : fJ7_fill_53178_c42 v1 sg = some y) (hk : K sg) : K y := by
  unfold fJ7_fill_53178_c42 at h
  exact kLJ7_fill_53178_c42_5 hK  _ h hk
theorem kfX10_takeAllPecks_92 {K : Sg → Prop} (hK : KW K) {r18 : (Int32 × Sg) → Option (Sg)} {r31 : (Int32 × Int32 × Sg) → Option (Sg)} {v1 : Int32} {v2 : Int32} {sg : Sg} {y : Sg} (hr18 : ∀ z, r18 z = some y → K z.2 → K y) (hr31 : ∀ z, r31 z = some y → K z.2.2 → K y) (h : fX10_takeAllPecks_92 r18 r31 v1 v2 sg = some y) (hk : K sg) : K y := by
  unfold fX10_takeAllPecks_92 at h
  obtain ⟨x1, ex1, h⟩ := p_lt h
  exact hr31 _ h hk
theorem kfX10_takeAllPecks_31 {K : Sg → Prop} (hK : KW K) {r18 : (Int32 × Sg) → Option (Sg)} {r31 : (Int32 × Int32 × Sg) → Option (Sg)} {v1 : Int32} {v2 : Int32} {sg : Sg} {y : Sg} (hr18 : ∀ z, r18 z = some y → K z.2 → K y) (hr31 : ∀ z, r31 z = some y → K z.2.2 → K y) (h : fX10_takeAllPecks_31 r18 r31 v1 v2 sg = some y) (hk : K sg) : K y := by
  unfold fX10_takeAllPecks_31 at h
  rcases p_ite h with h | h
  · skip
    obtain ⟨x2, ex2, h⟩ := p_lt h
    exact hr18 _ h hk
  · skip
    obtain ⟨y3, sg4, csg4, h⟩ := p_bnd2 h
    have qsg4 : K sg4 := kfX8_peckOf hK  csg4 hk
    replace h := p_gin h
    obtain ⟨sg7, esg7, h⟩ := p_lt h
    have qsg7 : K sg7 := by rw [esg7]; exact hK.1 _ _ _ _ rfl qsg4
    rcases p_ite h with h | h
    · skip
      exact kfX10_takeAllPecks_92 hK hr18 hr31 h qsg7
    · skip
      replace h := p_gin h
      obtain ⟨x10, ex10, h⟩ := p_lt h
      replace h := p_gin h
      obtain ⟨sg12, esg12, h⟩ := p_lt h
      have qsg12 : K sg12 := by rw [esg12]; exact hK.1 _ _ _ _ rfl qsg7
      replace h := p_gin h
      obtain ⟨x14, ex14, h⟩ := p_lt h
      replace h := p_gin h
      obtain ⟨sg16, esg16, h⟩ := p_lt h
      have qsg16 : K sg16 := by rw [esg16]; exact hK.1 _ _ _ _ rfl qsg12
      exact kfX10_takeAllPecks_92 hK hr18 hr31 h qsg16
theorem kLX10_takeAllPecks_31 {K : Sg → Prop} (hK : KW K) {r18 : (Int32 × Sg) → Option (Sg)} {y : Sg} (hr18 : ∀ z, r18 z = some y → K z.2 → K y) : ∀ z, LX10_takeAllPecks_31 r18 z = some y → K z.2.2 → K y := by
  intro z h
  unfold LX10_takeAllPecks_31 at h
  exact loop_ind (fun rec z => fX10_takeAllPecks_31 r18 rec z.1 z.2.1 z.2.2) (y := y) (P := fun z => K z.2.2 → K y) (fun rec hrec z h hk => kfX10_takeAllPecks_31 hK hr18 hrec h hk) z h
theorem kfX10_takeAllPecks_18 {K : Sg → Prop} (hK : KW K) {r18 : (Int32 × Sg) → Option (Sg)} {v1 : Int32} {sg : Sg} {y : Sg} (hr18 : ∀ z, r18 z = some y → K z.2 → K y) (h : fX10_takeAllPecks_18 r18 v1 sg = some y) (hk : K sg) : K y := by
  unfold fX10_takeAllPecks_18 at h
  rcases p_ite h with h | h
  · skip
    cases h
    exact hk
  · skip
    exact kLX10_takeAllPecks_31 hK hr18 _ h hk
theorem kLX10_takeAllPecks_18 {K : Sg → Prop} (hK : KW K) {y : Sg} : ∀ z, LX10_takeAllPecks_18 z = some y → K z.2 → K y := by
  intro z h
  unfold LX10_takeAllPecks_18 at h
  exact loop_ind (fun rec z => fX10_takeAllPecks_18 rec z.1 z.2) (y := y) (P := fun z => K z.2 → K y) (fun rec hrec z h hk => kfX10_takeAllPecks_18 hK hrec h hk) z h
theorem kfX10_takeAllPecks {K : Sg → Prop} (hK : KW K) {sg : Sg} {y : Sg} (h : fX10_takeAllPecks sg = some y) (hk : K sg) : K y := by
  unfold fX10_takeAllPecks at h
  obtain ⟨sg1, csg1, h⟩ := p_bnd1 h
  have qsg1 : K sg1 := kfJ7_fill_53178_c41 hK  csg1 hk
  obtain ⟨sg3, csg3, h⟩ := p_bnd1 h
  have qsg3 : K sg3 := kfJ7_fill_53178_c42 hK  csg3 qsg1
  exact kLX10_takeAllPecks_18 hK  _ h qsg3
theorem kfX8_allPecks_15 {K : Sg → Prop} (hK : KW K) {r4 : (Int64 × Int32 × Sg) → Option (Int64 × Sg)} {r15 : (Int64 × Int32 × Int32 × Sg) → Option (Int64 × Sg)} {v1 : Int64} {v3 : Int32} {v4 : Int32} {sg : Sg} {y : Int64 × Sg} (hr4 : ∀ z, r4 z = some y → K z.2.2 → K y.2) (hr15 : ∀ z, r15 z = some y → K z.2.2.2 → K y.2) (h : fX8_allPecks_15 r4 r15 v1 v3 v4 sg = some y) (hk : K sg) : K y.2 := by
  unfold fX8_allPecks_15 at h
  rcases p_ite h with h | h
  · skip
    obtain ⟨x2, ex2, h⟩ := p_lt h
    exact hr4 _ h hk
  · skip
    obtain ⟨y3, sg4, csg4, h⟩ := p_bnd2 h
    have qsg4 : K sg4 := kfX8_peckOf hK  csg4 hk
    obtain ⟨x6, ex6, h⟩ := p_lt h
    obtain ⟨x7, ex7, h⟩ := p_lt h
    exact hr15 _ h qsg4
theorem kLX8_allPecks_15 {K : Sg → Prop} (hK : KW K) {r4 : (Int64 × Int32 × Sg) → Option (Int64 × Sg)} {y : Int64 × Sg} (hr4 : ∀ z, r4 z = some y → K z.2.2 → K y.2) : ∀ z, LX8_allPecks_15 r4 z = some y → K z.2.2.2 → K y.2 := by
  intro z h
  unfold LX8_allPecks_15 at h
  exact loop_ind (fun rec z => fX8_allPecks_15 r4 rec z.1 z.2.1 z.2.2.1 z.2.2.2) (y := y) (P := fun z => K z.2.2.2 → K y.2) (fun rec hrec z h hk => kfX8_allPecks_15 hK hr4 hrec h hk) z h
theorem kfX8_allPecks_4 {K : Sg → Prop} (hK : KW K) {r4 : (Int64 × Int32 × Sg) → Option (Int64 × Sg)} {v1 : Int64} {v3 : Int32} {sg : Sg} {y : Int64 × Sg} (hr4 : ∀ z, r4 z = some y → K z.2.2 → K y.2) (h : fX8_allPecks_4 r4 v1 v3 sg = some y) (hk : K sg) : K y.2 := by
  unfold fX8_allPecks_4 at h
  rcases p_ite h with h | h
  · skip
    cases h
    exact hk
  · skip
    exact kLX8_allPecks_15 hK hr4 _ h hk
theorem kLX8_allPecks_4 {K : Sg → Prop} (hK : KW K) {y : Int64 × Sg} : ∀ z, LX8_allPecks_4 z = some y → K z.2.2 → K y.2 := by
  intro z h
  unfold LX8_allPecks_4 at h
  exact loop_ind (fun rec z => fX8_allPecks_4 rec z.1 z.2.1 z.2.2) (y := y) (P := fun z => K z.2.2 → K y.2) (fun rec hrec z h hk => kfX8_allPecks_4 hK hrec h hk) z h
theorem kfX8_allPecks {K : Sg → Prop} (hK : KW K) {sg : Sg} {y : Int64 × Sg} (h : fX8_allPecks sg = some y) (hk : K sg) : K y.2 := by
  unfold fX8_allPecks at h
  exact kLX8_allPecks_4 hK  _ h hk
theorem kfX2_penCount_25 {K : Sg → Prop} (hK : KW K) {r4 : (Int32 × Int32 × Sg) → Option (Int32 × Sg)} {v1 : Int32} {v2 : Int32} {sg : Sg} {y : Int32 × Sg} (hr4 : ∀ z, r4 z = some y → K z.2.2 → K y.2) (h : fX2_penCount_25 r4 v1 v2 sg = some y) (hk : K sg) : K y.2 := by
  unfold fX2_penCount_25 at h
  obtain ⟨x1, ex1, h⟩ := p_lt h
  exact hr4 _ h hk
theorem kfX2_penCount_4 {K : Sg → Prop} (hK : KW K) {r4 : (Int32 × Int32 × Sg) → Option (Int32 × Sg)} {v1 : Int32} {v2 : Int32} {sg : Sg} {y : Int32 × Sg} (hr4 : ∀ z, r4 z = some y → K z.2.2 → K y.2) (h : fX2_penCount_4 r4 v1 v2 sg = some y) (hk : K sg) : K y.2 := by
  unfold fX2_penCount_4 at h
  rcases p_ite h with h | h
  · skip
    cases h
    exact hk
  · skip
    replace h := p_gin h
    rcases p_ite h with h | h
    · skip
      exact kfX2_penCount_25 hK hr4 h hk
    · skip
      obtain ⟨x4, ex4, h⟩ := p_lt h
      exact kfX2_penCount_25 hK hr4 h hk
theorem kLX2_penCount_4 {K : Sg → Prop} (hK : KW K) {y : Int32 × Sg} : ∀ z, LX2_penCount_4 z = some y → K z.2.2 → K y.2 := by
  intro z h
  unfold LX2_penCount_4 at h
  exact loop_ind (fun rec z => fX2_penCount_4 rec z.1 z.2.1 z.2.2) (y := y) (P := fun z => K z.2.2 → K y.2) (fun rec hrec z h hk => kfX2_penCount_4 hK hrec h hk) z h
theorem kfX2_penCount {K : Sg → Prop} (hK : KW K) {sg : Sg} {y : Int32 × Sg} (h : fX2_penCount sg = some y) (hk : K sg) : K y.2 := by
  unfold fX2_penCount at h
  exact kLX2_penCount_4 hK  _ h hk
theorem kfX10_tell {K : Sg → Prop} (hK : KW K) {v1 : Int32} {v2 : Int32} {sg : Sg} {y : Int64 × Sg} (h : fX10_tell v1 v2 sg = some y) (hk : K sg) : K y.2 := by
  unfold fX10_tell at h
  rcases p_ite h with h | h
  · skip
    replace h := p_gin h
    cases h
    exact hk
  · skip
    rcases p_ite h with h | h
    · skip
      replace h := p_gin h
      cases h
      exact hk
    · skip
      replace h := p_gin h
      rcases p_ite h with h | h
      · skip
        cases h
        exact hk
      · skip
        obtain ⟨x5, ex5, h⟩ := p_lt h
        replace h := p_gin h
        cases h
        exact hk
theorem kfX2_has {K : Sg → Prop} (hK : KW K) {v1 : Int32} {sg : Sg} {y : Int32 × Sg} (h : fX2_has v1 sg = some y) (hk : K sg) : K y.2 := by
  unfold fX2_has at h
  rcases p_ite h with h | h
  · skip
    cases h
    exact hk
  · skip
    rcases p_ite h with h | h
    · skip
      cases h
      exact hk
    · skip
      cases h
      exact hk
theorem kfX2_isCounted {K : Sg → Prop} (hK : KW K) {v1 : Int32} {sg : Sg} {y : Int32 × Sg} (h : fX2_isCounted v1 sg = some y) (hk : K sg) : K y.2 := by
  unfold fX2_isCounted at h
  obtain ⟨y1, sg2, csg2, h⟩ := p_bnd2 h
  have qsg2 : K sg2 := kfX2_has hK  csg2 hk
  rcases p_ite h with h | h
  · skip
    cases h
    exact qsg2
  · skip
    replace h := p_gin h
    rcases p_ite h with h | h
    · skip
      replace h := p_gin h
      rcases p_ite h with h | h
      · skip
        cases h
        exact qsg2
      · skip
        cases h
        exact qsg2
    · skip
      cases h
      exact qsg2
theorem kfJ7_fill_031fb_c66_5 {K : Sg → Prop} (hK : KW K) {r5 : (Int32 × Int32 × Int32 × Sg) → Option (Sg)} {v1 : Int32} {v2 : Int32} {v3 : Int32} {sg : Sg} {y : Sg} (hr5 : ∀ z, r5 z = some y → K z.2.2.2 → K y) (h : fJ7_fill_031fb_c66_5 r5 v1 v2 v3 sg = some y) (hk : K sg) : K y := by
  unfold fJ7_fill_031fb_c66_5 at h
  rcases p_ite h with h | h
  · skip
    cases h
    exact hk
  · skip
    replace h := p_gin h
    obtain ⟨sg3, esg3, h⟩ := p_lt h
    have qsg3 : K sg3 := by rw [esg3]; exact hK.1 _ _ _ _ rfl hk
    obtain ⟨x4, ex4, h⟩ := p_lt h
    exact hr5 _ h qsg3
theorem kLJ7_fill_031fb_c66_5 {K : Sg → Prop} (hK : KW K) {y : Sg} : ∀ z, LJ7_fill_031fb_c66_5 z = some y → K z.2.2.2 → K y := by
  intro z h
  unfold LJ7_fill_031fb_c66_5 at h
  exact loop_ind (fun rec z => fJ7_fill_031fb_c66_5 rec z.1 z.2.1 z.2.2.1 z.2.2.2) (y := y) (P := fun z => K z.2.2.2 → K y) (fun rec hrec z h hk => kfJ7_fill_031fb_c66_5 hK hrec h hk) z h
theorem kfJ7_fill_031fb_c66 {K : Sg → Prop} (hK : KW K) {v1 : Int32} {sg : Sg} {y : Sg} (h : fJ7_fill_031fb_c66 v1 sg = some y) (hk : K sg) : K y := by
  unfold fJ7_fill_031fb_c66 at h
  obtain ⟨x1, ex1, h⟩ := p_lt h
  exact kLJ7_fill_031fb_c66_5 hK  _ h hk
theorem kfJ7_fill_53178_c24_5 {K : Sg → Prop} (hK : KW K) {r5 : (Int32 × Int32 × Int32 × Sg) → Option (Sg)} {v1 : Int32} {v2 : Int32} {v3 : Int32} {sg : Sg} {y : Sg} (hr5 : ∀ z, r5 z = some y → K z.2.2.2 → K y) (h : fJ7_fill_53178_c24_5 r5 v1 v2 v3 sg = some y) (hk : K sg) : K y := by
  unfold fJ7_fill_53178_c24_5 at h
  rcases p_ite h with h | h
  · skip
    cases h
    exact hk
  · skip
    replace h := p_gin h
    obtain ⟨sg3, esg3, h⟩ := p_lt h
    have qsg3 : K sg3 := by rw [esg3]; exact hK.1 _ _ _ _ rfl hk
    obtain ⟨x4, ex4, h⟩ := p_lt h
    exact hr5 _ h qsg3
theorem kLJ7_fill_53178_c24_5 {K : Sg → Prop} (hK : KW K) {y : Sg} : ∀ z, LJ7_fill_53178_c24_5 z = some y → K z.2.2.2 → K y := by
  intro z h
  unfold LJ7_fill_53178_c24_5 at h
  exact loop_ind (fun rec z => fJ7_fill_53178_c24_5 rec z.1 z.2.1 z.2.2.1 z.2.2.2) (y := y) (P := fun z => K z.2.2.2 → K y) (fun rec hrec z h hk => kfJ7_fill_53178_c24_5 hK hrec h hk) z h
theorem kfJ7_fill_53178_c24 {K : Sg → Prop} (hK : KW K) {v1 : Int32} {sg : Sg} {y : Sg} (h : fJ7_fill_53178_c24 v1 sg = some y) (hk : K sg) : K y := by
  unfold fJ7_fill_53178_c24 at h
  exact kLJ7_fill_53178_c24_5 hK  _ h hk
theorem kfX9_agree_171 {K : Sg → Prop} (hK : KW K) {r77 : (Int32 × Int32 × Sg) → Option (Sg)} {v1 : Int32} {v2 : Int32} {sg : Sg} {y : Sg} (hr77 : ∀ z, r77 z = some y → K z.2.2 → K y) (h : fX9_agree_171 r77 v1 v2 sg = some y) (hk : K sg) : K y := by
  unfold fX9_agree_171 at h
  obtain ⟨x1, ex1, h⟩ := p_lt h
  exact hr77 _ h hk
theorem kfX9_agree_165 {K : Sg → Prop} (hK : KW K) {r77 : (Int32 × Int32 × Sg) → Option (Sg)} {r105 : (Int32 × Int32 × Int32 × Int32 × Sg) → Option (Sg)} {v1 : Int32} {v2 : Int32} {v3 : Int32} {v4 : Int32} {sg : Sg} {y : Sg} (hr77 : ∀ z, r77 z = some y → K z.2.2 → K y) (hr105 : ∀ z, r105 z = some y → K z.2.2.2.2 → K y) (h : fX9_agree_165 r77 r105 v1 v2 v3 v4 sg = some y) (hk : K sg) : K y := by
  unfold fX9_agree_165 at h
  obtain ⟨x1, ex1, h⟩ := p_lt h
  exact hr105 _ h hk
theorem kfX9_agree_105 {K : Sg → Prop} (hK : KW K) {r77 : (Int32 × Int32 × Sg) → Option (Sg)} {r105 : (Int32 × Int32 × Int32 × Int32 × Sg) → Option (Sg)} {v1 : Int32} {v2 : Int32} {v3 : Int32} {v4 : Int32} {sg : Sg} {y : Sg} (hr77 : ∀ z, r77 z = some y → K z.2.2 → K y) (hr105 : ∀ z, r105 z = some y → K z.2.2.2.2 → K y) (h : fX9_agree_105 r77 r105 v1 v2 v3 v4 sg = some y) (hk : K sg) : K y := by
  unfold fX9_agree_105 at h
  rcases p_ite h with h | h
  · skip
    exact kfX9_agree_171 hK hr77 h hk
  · skip
    rcases p_ite h with h | h
    · skip
      exact kfX9_agree_171 hK hr77 h hk
    · skip
      obtain ⟨y3, sg4, csg4, h⟩ := p_bnd2 h
      have qsg4 : K sg4 := kfX11_isIn hK  csg4 hk
      rcases p_ite h with h | h
      · skip
        exact kfX9_agree_165 hK hr77 hr105 h qsg4
      · skip
        obtain ⟨x8, ex8, h⟩ := p_lt h
        replace h := p_gin h
        obtain ⟨sg10, esg10, h⟩ := p_lt h
        have qsg10 : K sg10 := by rw [esg10]; exact hK.1 _ _ _ _ rfl qsg4
        replace h := p_gin h
        obtain ⟨x12, ex12, h⟩ := p_lt h
        replace h := p_gin h
        obtain ⟨sg14, esg14, h⟩ := p_lt h
        have qsg14 : K sg14 := by rw [esg14]; exact hK.1 _ _ _ _ rfl qsg10
        exact kfX9_agree_165 hK hr77 hr105 h qsg14
theorem kLX9_agree_105 {K : Sg → Prop} (hK : KW K) {r77 : (Int32 × Int32 × Sg) → Option (Sg)} {y : Sg} (hr77 : ∀ z, r77 z = some y → K z.2.2 → K y) : ∀ z, LX9_agree_105 r77 z = some y → K z.2.2.2.2 → K y := by
  intro z h
  unfold LX9_agree_105 at h
  exact loop_ind (fun rec z => fX9_agree_105 r77 rec z.1 z.2.1 z.2.2.1 z.2.2.2.1 z.2.2.2.2) (y := y) (P := fun z => K z.2.2.2.2 → K y) (fun rec hrec z h hk => kfX9_agree_105 hK hr77 hrec h hk) z h
theorem kfX9_agree_101 {K : Sg → Prop} (hK : KW K) {r77 : (Int32 × Int32 × Sg) → Option (Sg)} {v1 : Int32} {v2 : Int32} {w0 : Int32} {sg : Sg} {y : Sg} (hr77 : ∀ z, r77 z = some y → K z.2.2 → K y) (h : fX9_agree_101 r77 v1 v2 w0 sg = some y) (hk : K sg) : K y := by
  unfold fX9_agree_101 at h
  exact kLX9_agree_105 hK hr77 _ h hk
theorem kfX9_agree_77 {K : Sg → Prop} (hK : KW K) {r77 : (Int32 × Int32 × Sg) → Option (Sg)} {v1 : Int32} {v2 : Int32} {sg : Sg} {y : Sg} (hr77 : ∀ z, r77 z = some y → K z.2.2 → K y) (h : fX9_agree_77 r77 v1 v2 sg = some y) (hk : K sg) : K y := by
  unfold fX9_agree_77 at h
  rcases p_ite h with h | h
  · skip
    cases h
    exact hk
  · skip
    replace h := p_gin h
    rcases p_ite h with h | h
    · skip
      obtain ⟨y4, sg5, csg5, h⟩ := p_bnd2 h
      have qsg5 : K sg5 := kfX9_bestChoices hK  csg5 hk
      exact kfX9_agree_101 hK hr77 h qsg5
    · skip
      exact kfX9_agree_101 hK hr77 h hk
theorem kLX9_agree_77 {K : Sg → Prop} (hK : KW K) {y : Sg} : ∀ z, LX9_agree_77 z = some y → K z.2.2 → K y := by
  intro z h
  unfold LX9_agree_77 at h
  exact loop_ind (fun rec z => fX9_agree_77 rec z.1 z.2.1 z.2.2) (y := y) (P := fun z => K z.2.2 → K y) (fun rec hrec z h hk => kfX9_agree_77 hK hrec h hk) z h
theorem kfX9_agree_52 {K : Sg → Prop} (hK : KW K) {v1 : Int32} {sg : Sg} {y : Sg} (h : fX9_agree_52 v1 sg = some y) (hk : K sg) : K y := by
  unfold fX9_agree_52 at h
  obtain ⟨sg1, csg1, h⟩ := p_bnd1 h
  have qsg1 : K sg1 := kfJ7_fill_031fb_c66 hK  csg1 hk
  obtain ⟨sg3, csg3, h⟩ := p_bnd1 h
  have qsg3 : K sg3 := kfJ7_fill_53178_c24 hK  csg3 qsg1
  replace h := p_gin h
  obtain ⟨sg6, esg6, h⟩ := p_lt h
  have qsg6 : K sg6 := by rw [esg6]; exact hK.1 _ _ _ _ rfl qsg3
  exact kLX9_agree_77 hK  _ h qsg6
theorem kfX9_agree {K : Sg → Prop} (hK : KW K) {sg : Sg} {y : Sg} (h : fX9_agree sg = some y) (hk : K sg) : K y := by
  unfold fX9_agree at h
  rcases p_ite h with h | h
  · skip
    cases h
    exact hk
  · skip
    obtain ⟨x2, ex2, h⟩ := p_lt h
    obtain ⟨sg3, esg3, h⟩ := p_lt h
    have qsg3 : K sg3 := by rw [esg3]; exact hK.1 _ _ _ _ rfl hk
    obtain ⟨y4, sg5, csg5, h⟩ := p_bnd2 h
    have qsg5 : K sg5 := kfX8_all hK  csg5 qsg3
    rcases p_ite h with h | h
    · skip
      exact kfX9_agree_52 hK  h qsg5
    · skip
      obtain ⟨x8, ex8, h⟩ := p_lt h
      replace h := p_gnw h
      obtain ⟨sg10, esg10, h⟩ := p_lt h
      have qsg10 : K sg10 := by rw [esg10]; exact hK.2 _ _ qsg5
      exact kfX9_agree_52 hK  h qsg10
theorem kfX9_mayStandAbove {K : Sg → Prop} (hK : KW K) {v1 : Int32} {v2 : Int32} {sg : Sg} {y : Int32 × Sg} (h : fX9_mayStandAbove v1 v2 sg = some y) (hk : K sg) : K y.2 := by
  unfold fX9_mayStandAbove at h
  replace h := p_gin h
  obtain ⟨y2, sg3, csg3, h⟩ := p_bnd2 h
  have qsg3 : K sg3 := kfX11_isIn hK  csg3 hk
  replace h := p_gz h
  cases h
  exact qsg3
theorem kfX11_begin {K : Sg → Prop} (hK : KW K) {sg : Sg} {y : Int64 × Sg} (h : fX11_begin sg = some y) (hk : K sg) : K y.2 := by
  unfold fX11_begin at h
  obtain ⟨x1, ex1, h⟩ := p_lt h
  obtain ⟨sg2, esg2, h⟩ := p_lt h
  have qsg2 : K sg2 := by rw [esg2]; exact hK.1 _ _ _ _ rfl hk
  cases h
  exact qsg2
theorem kfX5_holds_2 {K : Sg → Prop} (hK : KW K) {r2 : (Int32 × Int32 × Sg) → Option (Int32 × Sg)} {v1 : Int32} {v2 : Int32} {sg : Sg} {y : Int32 × Sg} (hr2 : ∀ z, r2 z = some y → K z.2.2 → K y.2) (h : fX5_holds_2 r2 v1 v2 sg = some y) (hk : K sg) : K y.2 := by
  unfold fX5_holds_2 at h
  rcases p_ite h with h | h
  · skip
    cases h
    exact hk
  · skip
    replace h := p_gin h
    rcases p_ite h with h | h
    · skip
      cases h
      exact hk
    · skip
      obtain ⟨x4, ex4, h⟩ := p_lt h
      exact hr2 _ h hk
theorem kLX5_holds_2 {K : Sg → Prop} (hK : KW K) {y : Int32 × Sg} : ∀ z, LX5_holds_2 z = some y → K z.2.2 → K y.2 := by
  intro z h
  unfold LX5_holds_2 at h
  exact loop_ind (fun rec z => fX5_holds_2 rec z.1 z.2.1 z.2.2) (y := y) (P := fun z => K z.2.2 → K y.2) (fun rec hrec z h hk => kfX5_holds_2 hK hrec h hk) z h
theorem kfX5_holds {K : Sg → Prop} (hK : KW K) {v1 : Int32} {sg : Sg} {y : Int32 × Sg} (h : fX5_holds v1 sg = some y) (hk : K sg) : K y.2 := by
  unfold fX5_holds at h
  exact kLX5_holds_2 hK  _ h hk
theorem kfX11_stand {K : Sg → Prop} (hK : KW K) {v1 : Int32} {sg : Sg} {y : Int64 × Sg} (h : fX11_stand v1 sg = some y) (hk : K sg) : K y.2 := by
  unfold fX11_stand at h
  obtain ⟨y1, sg2, csg2, h⟩ := p_bnd2 h
  have qsg2 : K sg2 := kfX2_has hK  csg2 hk
  rcases p_ite h with h | h
  · skip
    cases h
    exact qsg2
  · skip
    obtain ⟨y5, sg6, csg6, h⟩ := p_bnd2 h
    have qsg6 : K sg6 := kfX5_holds hK  csg6 qsg2
    rcases p_ite h with h | h
    · skip
      rcases p_ite h with h | h
      · skip
        obtain ⟨sg10, csg10, h⟩ := p_bnd1 h
        have qsg10 : K sg10 := kfX5_append hK  csg10 qsg6
        cases h
        exact qsg10
      · skip
        cases h
        exact qsg6
    · skip
      cases h
      exact qsg6
theorem kfX5_isPlace {K : Sg → Prop} (hK : KW K) {v1 : Int32} {sg : Sg} {y : Int32 × Sg} (h : fX5_isPlace v1 sg = some y) (hk : K sg) : K y.2 := by
  unfold fX5_isPlace at h
  rcases p_ite h with h | h
  · skip
    cases h
    exact hk
  · skip
    rcases p_ite h with h | h
    · skip
      cases h
      exact hk
    · skip
      cases h
      exact hk
theorem kfX11_order {K : Sg → Prop} (hK : KW K) {v1 : Int32} {sg : Sg} {y : Int64 × Sg} (h : fX11_order v1 sg = some y) (hk : K sg) : K y.2 := by
  unfold fX11_order at h
  obtain ⟨y1, sg2, csg2, h⟩ := p_bnd2 h
  have qsg2 : K sg2 := kfX5_isPlace hK  csg2 hk
  rcases p_ite h with h | h
  · skip
    cases h
    exact qsg2
  · skip
    replace h := p_gin h
    cases h
    exact qsg2
theorem kfX11_shift_c31_32 {K : Sg → Prop} (hK : KW K) {r32 : (Int32 × Int32 × Int32 × Sg) → Option (Sg)} {v2 : Int32} {v3 : Int32} {v4 : Int32} {sg : Sg} {y : Sg} (hr32 : ∀ z, r32 z = some y → K z.2.2.2 → K y) (h : fX11_shift_c31_32 r32 v2 v3 v4 sg = some y) (hk : K sg) : K y := by
  unfold fX11_shift_c31_32 at h
  rcases p_ite h with h | h
  · skip
    replace h := p_gin h
    obtain ⟨sg3, esg3, h⟩ := p_lt h
    have qsg3 : K sg3 := by rw [esg3]; exact hK.1 _ _ _ _ rfl hk
    cases h
    exact qsg3
  · skip
    obtain ⟨x4, ex4, h⟩ := p_lt h
    replace h := p_gin h
    obtain ⟨x6, ex6, h⟩ := p_lt h
    replace h := p_gin h
    obtain ⟨sg8, esg8, h⟩ := p_lt h
    have qsg8 : K sg8 := by rw [esg8]; exact hK.1 _ _ _ _ rfl hk
    obtain ⟨x9, ex9, h⟩ := p_lt h
    exact hr32 _ h qsg8
theorem kLX11_shift_c31_32 {K : Sg → Prop} (hK : KW K) {y : Sg} : ∀ z, LX11_shift_c31_32 z = some y → K z.2.2.2 → K y := by
  intro z h
  unfold LX11_shift_c31_32 at h
  exact loop_ind (fun rec z => fX11_shift_c31_32 rec z.1 z.2.1 z.2.2.1 z.2.2.2) (y := y) (P := fun z => K z.2.2.2 → K y) (fun rec hrec z h hk => kfX11_shift_c31_32 hK hrec h hk) z h
theorem kfX11_shift_c31_7 {K : Sg → Prop} (hK : KW K) {r7 : (Int32 × Int32 × Int32 × Int32 × Sg) → Option (Sg)} {v1 : Int32} {v2 : Int32} {v3 : Int32} {v4 : Int32} {sg : Sg} {y : Sg} (hr7 : ∀ z, r7 z = some y → K z.2.2.2.2 → K y) (h : fX11_shift_c31_7 r7 v1 v2 v3 v4 sg = some y) (hk : K sg) : K y := by
  unfold fX11_shift_c31_7 at h
  rcases p_ite h with h | h
  · skip
    exact kLX11_shift_c31_32 hK  _ h hk
  · skip
    obtain ⟨x2, ex2, h⟩ := p_lt h
    replace h := p_gin h
    obtain ⟨x4, ex4, h⟩ := p_lt h
    replace h := p_gin h
    obtain ⟨sg6, esg6, h⟩ := p_lt h
    have qsg6 : K sg6 := by rw [esg6]; exact hK.1 _ _ _ _ rfl hk
    obtain ⟨x7, ex7, h⟩ := p_lt h
    exact hr7 _ h qsg6
theorem kLX11_shift_c31_7 {K : Sg → Prop} (hK : KW K) {y : Sg} : ∀ z, LX11_shift_c31_7 z = some y → K z.2.2.2.2 → K y := by
  intro z h
  unfold LX11_shift_c31_7 at h
  exact loop_ind (fun rec z => fX11_shift_c31_7 rec z.1 z.2.1 z.2.2.1 z.2.2.2.1 z.2.2.2.2) (y := y) (P := fun z => K z.2.2.2.2 → K y) (fun rec hrec z h hk => kfX11_shift_c31_7 hK hrec h hk) z h
theorem kfX11_shift_c31 {K : Sg → Prop} (hK : KW K) {v1 : Int32} {v2 : Int32} {sg : Sg} {y : Sg} (h : fX11_shift_c31 v1 v2 sg = some y) (hk : K sg) : K y := by
  unfold fX11_shift_c31 at h
  replace h := p_gin h
  obtain ⟨x2, ex2, h⟩ := p_lt h
  exact kLX11_shift_c31_7 hK  _ h hk
theorem kfX11_move {K : Sg → Prop} (hK : KW K) {v1 : Int32} {v2 : Int32} {sg : Sg} {y : Int64 × Sg} (h : fX11_move v1 v2 sg = some y) (hk : K sg) : K y.2 := by
  unfold fX11_move at h
  obtain ⟨y1, sg2, csg2, h⟩ := p_bnd2 h
  have qsg2 : K sg2 := kfX5_isPlace hK  csg2 hk
  rcases p_ite h with h | h
  · skip
    cases h
    exact qsg2
  · skip
    obtain ⟨y5, sg6, csg6, h⟩ := p_bnd2 h
    have qsg6 : K sg6 := kfX5_isPlace hK  csg6 qsg2
    rcases p_ite h with h | h
    · skip
      cases h
      exact qsg6
    · skip
      obtain ⟨sg9, csg9, h⟩ := p_bnd1 h
      have qsg9 : K sg9 := kfX11_shift_c31 hK  csg9 qsg6
      cases h
      exact qsg9
theorem kfX5_reverse_2 {K : Sg → Prop} (hK : KW K) {r2 : (Int32 × Sg) → Option (Sg)} {v1 : Int32} {sg : Sg} {y : Sg} (hr2 : ∀ z, r2 z = some y → K z.2 → K y) (h : fX5_reverse_2 r2 v1 sg = some y) (hk : K sg) : K y := by
  unfold fX5_reverse_2 at h
  rcases p_ite h with h | h
  · skip
    cases h
    exact hk
  · skip
    obtain ⟨x2, ex2, h⟩ := p_lt h
    replace h := p_gin h
    obtain ⟨x4, ex4, h⟩ := p_lt h
    replace h := p_gin h
    obtain ⟨x6, ex6, h⟩ := p_lt h
    replace h := p_gin h
    obtain ⟨sg8, esg8, h⟩ := p_lt h
    have qsg8 : K sg8 := by rw [esg8]; exact hK.1 _ _ _ _ rfl hk
    replace h := p_gin h
    obtain ⟨sg10, esg10, h⟩ := p_lt h
    have qsg10 : K sg10 := by rw [esg10]; exact hK.1 _ _ _ _ rfl qsg8
    obtain ⟨x11, ex11, h⟩ := p_lt h
    exact hr2 _ h qsg10
theorem kLX5_reverse_2 {K : Sg → Prop} (hK : KW K) {y : Sg} : ∀ z, LX5_reverse_2 z = some y → K z.2 → K y := by
  intro z h
  unfold LX5_reverse_2 at h
  exact loop_ind (fun rec z => fX5_reverse_2 rec z.1 z.2) (y := y) (P := fun z => K z.2 → K y) (fun rec hrec z h hk => kfX5_reverse_2 hK hrec h hk) z h
theorem kfX5_reverse {K : Sg → Prop} (hK : KW K) {sg : Sg} {y : Sg} (h : fX5_reverse sg = some y) (hk : K sg) : K y := by
  unfold fX5_reverse at h
  exact kLX5_reverse_2 hK  _ h hk
theorem kfX11_turn {K : Sg → Prop} (hK : KW K) {sg : Sg} {y : Int64 × Sg} (h : fX11_turn sg = some y) (hk : K sg) : K y.2 := by
  unfold fX11_turn at h
  obtain ⟨sg1, csg1, h⟩ := p_bnd1 h
  have qsg1 : K sg1 := kfX5_reverse hK  csg1 hk
  cases h
  exact qsg1
theorem kfX11_ring {K : Sg → Prop} (hK : KW K) {v1 : Int32} {v2 : Int32} {sg : Sg} {y : Int64 × Sg} (h : fX11_ring v1 v2 sg = some y) (hk : K sg) : K y.2 := by
  unfold fX11_ring at h
  rcases p_ite h with h | h
  · skip
    cases h
    exact hk
  · skip
    rcases p_ite h with h | h
    · skip
      rcases p_ite h with h | h
      · skip
        cases h
        exact hk
      · skip
        obtain ⟨y4, sg5, csg5, h⟩ := p_bnd2 h
        have qsg5 : K sg5 := kfX10_tell hK  csg5 hk
        cases h
        exact qsg5
    · skip
      cases h
      exact hk
