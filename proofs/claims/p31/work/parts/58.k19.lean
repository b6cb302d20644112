/-! the reference: what is kept by writing free cells -/
def wfm (k j : Nat) : Bool := !(k == 3 || (k == 0 && j == 4))
def KWm (K : Sg → Prop) : Prop := ∀ sg k j v, wfm k j = true → K sg → K (up2 sg k j v)
theorem kfX12_hens {K : Sg → Prop} (hK : KWm K) {sg : Sg} {lg : Lg} {y : Int32 × Sg × Lg} (h : fX12_hens sg lg = some y) (hk : K sg) : K y.2.1 := by
  unfold fX12_hens at h
  replace h := p_gin h
  cases h
  exact hk
theorem kfX12_isIn {K : Sg → Prop} (hK : KWm K) {v0 : Int64} {v2 : Int64} {v4 : Int64} {sg : Sg} {lg : Lg} {y : Int32 × Sg × Lg} (h : fX12_isIn v0 v2 v4 sg lg = some y) (hk : K sg) : K y.2.1 := by
  unfold fX12_isIn at h
  rcases p_ite h with h | h
  · skip
    cases h
    exact hk
  · skip
    rcases p_ite h with h | h
    · skip
      cases h
      exact hk
    · skip
      cases h
      exact hk
theorem kfX12_isHen {K : Sg → Prop} (hK : KWm K) {v1 : Int32} {sg : Sg} {lg : Lg} {y : Int32 × Sg × Lg} (h : fX12_isHen v1 sg lg = some y) (hk : K sg) : K y.2.1 := by
  unfold fX12_isHen at h
  obtain ⟨y1, sg2, lg3, clg3, h⟩ := p_bnd3 h
  have qsg2 : K sg2 := kfX12_hens hK  clg3 hk
  obtain ⟨y5, sg6, lg7, clg7, h⟩ := p_bnd3 h
  have qsg6 : K sg6 := kfX12_isIn hK  clg7 qsg2
  replace h := p_gz h
  cases h
  exact qsg6
theorem kfX12_kind {K : Sg → Prop} (hK : KWm K) {v1 : Int32} {sg : Sg} {lg : Lg} {y : Int32 × Sg × Lg} (h : fX12_kind v1 sg lg = some y) (hk : K sg) : K y.2.1 := by
  unfold fX12_kind at h
  obtain ⟨x1, ex1, h⟩ := p_lt h
  replace h := p_gin h
  cases h
  exact hk
theorem kfX12_counts {K : Sg → Prop} (hK : KWm K) {v1 : Int32} {sg : Sg} {lg : Lg} {y : Int32 × Sg × Lg} (h : fX12_counts v1 sg lg = some y) (hk : K sg) : K y.2.1 := by
  unfold fX12_counts at h
  obtain ⟨y1, sg2, lg3, clg3, h⟩ := p_bnd3 h
  have qsg2 : K sg2 := kfX12_isHen hK  clg3 hk
  rcases p_ite h with h | h
  · skip
    cases h
    exact qsg2
  · skip
    obtain ⟨y6, sg7, lg8, clg8, h⟩ := p_bnd3 h
    have qsg7 : K sg7 := kfX12_kind hK  clg8 qsg2
    rcases p_ite h with h | h
    · skip
      obtain ⟨x11, ex11, h⟩ := p_lt h
      replace h := p_gin h
      rcases p_ite h with h | h
      · skip
        cases h
        exact qsg7
      · skip
        cases h
        exact qsg7
    · skip
      cases h
      exact qsg7
theorem kfX12_counting_28 {K : Sg → Prop} (hK : KWm K) {r4 : (Int32 × Int32 × Sg × Lg) → Option (Int32 × Sg × Lg)} {v2 : Int32} {w0 : Int32} {w1 : Int32} {sg : Sg} {lg : Lg} {y : Int32 × Sg × Lg} (hr4 : ∀ z, r4 z = some y → K z.2.2.1 → K y.2.1) (h : fX12_counting_28 r4 v2 w0 w1 sg lg = some y) (hk : K sg) : K y.2.1 := by
  unfold fX12_counting_28 at h
  obtain ⟨x1, ex1, h⟩ := p_lt h
  obtain ⟨x2, ex2, h⟩ := p_lt h
  exact hr4 _ h hk
theorem kfX12_counting_4 {K : Sg → Prop} (hK : KWm K) {r4 : (Int32 × Int32 × Sg × Lg) → Option (Int32 × Sg × Lg)} {v1 : Int32} {v2 : Int32} {sg : Sg} {lg : Lg} {y : Int32 × Sg × Lg} (hr4 : ∀ z, r4 z = some y → K z.2.2.1 → K y.2.1) (h : fX12_counting_4 r4 v1 v2 sg lg = some y) (hk : K sg) : K y.2.1 := by
  unfold fX12_counting_4 at h
  obtain ⟨y1, sg2, lg3, clg3, h⟩ := p_bnd3 h
  have qsg2 : K sg2 := kfX12_hens hK  clg3 hk
  rcases p_ite h with h | h
  · skip
    cases h
    exact qsg2
  · skip
    obtain ⟨y6, sg7, lg8, clg8, h⟩ := p_bnd3 h
    have qsg7 : K sg7 := kfX12_counts hK  clg8 qsg2
    rcases p_ite h with h | h
    · skip
      exact kfX12_counting_28 hK hr4 h qsg7
    · skip
      exact kfX12_counting_28 hK hr4 h qsg7
theorem kLX12_counting_4 {K : Sg → Prop} (hK : KWm K) {y : Int32 × Sg × Lg} : ∀ z, LX12_counting_4 z = some y → K z.2.2.1 → K y.2.1 := by
  intro z h
  unfold LX12_counting_4 at h
  exact loop_ind (fun rec z => fX12_counting_4 rec z.1 z.2.1 z.2.2.1 z.2.2.2) (y := y) (P := fun z => K z.2.2.1 → K y.2.1) (fun rec hrec z h hk => kfX12_counting_4 hK hrec h hk) z h
theorem kfX12_counting {K : Sg → Prop} (hK : KWm K) {sg : Sg} {lg : Lg} {y : Int32 × Sg × Lg} (h : fX12_counting sg lg = some y) (hk : K sg) : K y.2.1 := by
  unfold fX12_counting at h
  exact kLX12_counting_4 hK  _ h hk
theorem kfX12_fill_150 {K : Sg → Prop} (hK : KWm K) {r25 : (Int32 × Int32 × Sg × Lg) → Option (Sg × Lg)} {v4 : Int32} {v5 : Int32} {sg : Sg} {lg : Lg} {y : Sg × Lg} (hr25 : ∀ z, r25 z = some y → K z.2.2.1 → K y.1) (h : fX12_fill_150 r25 v4 v5 sg lg = some y) (hk : K sg) : K y.1 := by
  unfold fX12_fill_150 at h
  obtain ⟨x1, ex1, h⟩ := p_lt h
  exact hr25 _ h hk
theorem kfX12_fill_144 {K : Sg → Prop} (hK : KWm K) {r25 : (Int32 × Int32 × Sg × Lg) → Option (Sg × Lg)} {r43 : (Int32 × Int32 × Int32 × Sg × Lg) → Option (Sg × Lg)} {v4 : Int32} {v5 : Int32} {v6 : Int32} {sg : Sg} {lg : Lg} {y : Sg × Lg} (hr25 : ∀ z, r25 z = some y → K z.2.2.1 → K y.1) (hr43 : ∀ z, r43 z = some y → K z.2.2.2.1 → K y.1) (h : fX12_fill_144 r25 r43 v4 v5 v6 sg lg = some y) (hk : K sg) : K y.1 := by
  unfold fX12_fill_144 at h
  obtain ⟨x1, ex1, h⟩ := p_lt h
  exact hr43 _ h hk
theorem kfX12_asks {K : Sg → Prop} (hK : KWm K) {v1 : Int32} {sg : Sg} {lg : Lg} {y : Int32 × Sg × Lg} (h : fX12_asks v1 sg lg = some y) (hk : K sg) : K y.2.1 := by
  unfold fX12_asks at h
  obtain ⟨x1, ex1, h⟩ := p_lt h
  replace h := p_gin h
  cases h
  exact hk
theorem kfX12_askedBy {K : Sg → Prop} (hK : KWm K) {v1 : Int32} {sg : Sg} {lg : Lg} {y : Int32 × Sg × Lg} (h : fX12_askedBy v1 sg lg = some y) (hk : K sg) : K y.2.1 := by
  unfold fX12_askedBy at h
  obtain ⟨y1, sg2, lg3, clg3, h⟩ := p_bnd3 h
  have qsg2 : K sg2 := kfX12_kind hK  clg3 hk
  obtain ⟨y5, sg6, lg7, clg7, h⟩ := p_bnd3 h
  have qsg6 : K sg6 := kfX12_isIn hK  clg7 qsg2
  rcases p_ite h with h | h
  · skip
    cases h
    exact qsg6
  · skip
    obtain ⟨y10, sg11, lg12, clg12, h⟩ := p_bnd3 h
    have qsg11 : K sg11 := kfX12_counts hK  clg12 qsg6
    rcases p_ite h with h | h
    · skip
      cases h
      exact qsg11
    · skip
      obtain ⟨y15, sg16, lg17, clg17, h⟩ := p_bnd3 h
      have qsg16 : K sg16 := kfX12_asks hK  clg17 qsg11
      obtain ⟨y19, sg20, lg21, clg21, h⟩ := p_bnd3 h
      have qsg20 : K sg20 := kfX12_counts hK  clg21 qsg16
      rcases p_ite h with h | h
      · skip
        cases h
        exact qsg20
      · skip
        obtain ⟨y24, sg25, lg26, clg26, h⟩ := p_bnd3 h
        have qsg25 : K sg25 := kfX12_asks hK  clg26 qsg20
        cases h
        exact qsg25
theorem kfX12_may_29 {K : Sg → Prop} (hK : KWm K) {v1 : Int32} {v3 : Int32} {v4 : Int32} {w0 : Int32} {sg : Sg} {lg : Lg} {y : Int32 × Sg × Lg} (h : fX12_may_29 v1 v3 v4 w0 sg lg = some y) (hk : K sg) : K y.2.1 := by
  unfold fX12_may_29 at h
  obtain ⟨y1, sg2, lg3, clg3, h⟩ := p_bnd3 h
  have qsg2 : K sg2 := kfX12_kind hK  clg3 hk
  rcases p_ite h with h | h
  · skip
    replace h := p_gz h
    cases h
    exact qsg2
  · skip
    obtain ⟨y6, sg7, lg8, clg8, h⟩ := p_bnd3 h
    have qsg7 : K sg7 := kfX12_kind hK  clg8 qsg2
    rcases p_ite h with h | h
    · skip
      rcases p_ite h with h | h
      · skip
        cases h
        exact qsg7
      · skip
        cases h
        exact qsg7
    · skip
      rcases p_ite h with h | h
      · skip
        cases h
        exact qsg7
      · skip
        cases h
        exact qsg7
theorem kfX12_may {K : Sg → Prop} (hK : KWm K) {v1 : Int32} {v2 : Int32} {v3 : Int32} {sg : Sg} {lg : Lg} {y : Int32 × Sg × Lg} (h : fX12_may v1 v2 v3 sg lg = some y) (hk : K sg) : K y.2.1 := by
  unfold fX12_may at h
  obtain ⟨y1, sg2, lg3, clg3, h⟩ := p_bnd3 h
  have qsg2 : K sg2 := kfX12_askedBy hK  clg3 hk
  rcases p_ite h with h | h
  · skip
    rcases p_ite h with h | h
    · skip
      exact kfX12_may_29 hK  h qsg2
    · skip
      exact kfX12_may_29 hK  h qsg2
  · skip
    cases h
    exact qsg2
theorem kfX12_mayCome_40 {K : Sg → Prop} (hK : KWm K) {v1 : Int32} {v2 : Int32} {v3 : Int32} {sg : Sg} {lg : Lg} {y : Int32 × Sg × Lg} (h : fX12_mayCome_40 v1 v2 v3 sg lg = some y) (hk : K sg) : K y.2.1 := by
  unfold fX12_mayCome_40 at h
  rcases p_ite h with h | h
  · skip
    cases h
    exact hk
  · skip
    obtain ⟨y2, sg3, lg4, clg4, h⟩ := p_bnd3 h
    have qsg3 : K sg3 := kfX12_may hK  clg4 hk
    rcases p_ite h with h | h
    · skip
      cases h
      exact qsg3
    · skip
      cases h
      exact qsg3
theorem kfX12_mayCome {K : Sg → Prop} (hK : KWm K) {v1 : Int32} {v2 : Int32} {v3 : Int32} {sg : Sg} {lg : Lg} {y : Int32 × Sg × Lg} (h : fX12_mayCome v1 v2 v3 sg lg = some y) (hk : K sg) : K y.2.1 := by
  unfold fX12_mayCome at h
  rcases p_ite h with h | h
  · skip
    cases h
    exact hk
  · skip
    obtain ⟨y2, sg3, lg4, clg4, h⟩ := p_bnd3 h
    have qsg3 : K sg3 := kfX12_counts hK  clg4 hk
    rcases p_ite h with h | h
    · skip
      cases h
      exact qsg3
    · skip
      rcases p_ite h with h | h
      · skip
        rcases p_ite h with h | h
        · skip
          cases h
          exact qsg3
        · skip
          exact kfX12_mayCome_40 hK  h qsg3
      · skip
        exact kfX12_mayCome_40 hK  h qsg3
theorem kfX12_fillState_165 {K : Sg → Prop} (hK : KWm K) {r26 : (Int32 × Int32 × Int32 × Int32 × Sg × Lg) → Option (Sg × Lg)} {v1 : Int32} {v2 : Int32} {v3 : Int32} {v4 : Int32} {sg : Sg} {lg : Lg} {y : Sg × Lg} (hr26 : ∀ z, r26 z = some y → K z.2.2.2.2.1 → K y.1) (h : fX12_fillState_165 r26 v1 v2 v3 v4 sg lg = some y) (hk : K sg) : K y.1 := by
  unfold fX12_fillState_165 at h
  obtain ⟨x1, ex1, h⟩ := p_lt h
  exact hr26 _ h hk
theorem kfX12_peckOf {K : Sg → Prop} (hK : KWm K) {v1 : Int32} {v2 : Int32} {sg : Sg} {lg : Lg} {y : Int32 × Sg × Lg} (h : fX12_peckOf v1 v2 sg lg = some y) (hk : K sg) : K y.2.1 := by
  unfold fX12_peckOf at h
  obtain ⟨x1, ex1, h⟩ := p_lt h
  replace h := p_gin h
  cases h
  exact hk
theorem kfX12_cost_35 {K : Sg → Prop} (hK : KWm K) {r5 : (Int32 × Int32 × Int64 × Int32 × Sg × Lg) → Option (Int64 × Sg × Lg)} {v1 : Int32} {v2 : Int32} {v5 : Int32} {w0 : Int64} {w1 : Int64} {sg : Sg} {lg : Lg} {y : Int64 × Sg × Lg} (hr5 : ∀ z, r5 z = some y → K z.2.2.2.2.1 → K y.2.1) (h : fX12_cost_35 r5 v1 v2 v5 w0 w1 sg lg = some y) (hk : K sg) : K y.2.1 := by
  unfold fX12_cost_35 at h
  obtain ⟨x1, ex1, h⟩ := p_lt h
  obtain ⟨x2, ex2, h⟩ := p_lt h
  exact hr5 _ h hk
theorem kfX12_cost_5 {K : Sg → Prop} (hK : KWm K) {r5 : (Int32 × Int32 × Int64 × Int32 × Sg × Lg) → Option (Int64 × Sg × Lg)} {v1 : Int32} {v2 : Int32} {v3 : Int64} {v5 : Int32} {sg : Sg} {lg : Lg} {y : Int64 × Sg × Lg} (hr5 : ∀ z, r5 z = some y → K z.2.2.2.2.1 → K y.2.1) (h : fX12_cost_5 r5 v1 v2 v3 v5 sg lg = some y) (hk : K sg) : K y.2.1 := by
  unfold fX12_cost_5 at h
  rcases p_ite h with h | h
  · skip
    cases h
    exact hk
  · skip
    rcases p_ite h with h | h
    · skip
      obtain ⟨y3, sg4, lg5, clg5, h⟩ := p_bnd3 h
      have qsg4 : K sg4 := kfX12_peckOf hK  clg5 hk
      exact kfX12_cost_35 hK hr5 h qsg4
    · skip
      exact kfX12_cost_35 hK hr5 h hk
theorem kLX12_cost_5 {K : Sg → Prop} (hK : KWm K) {y : Int64 × Sg × Lg} : ∀ z, LX12_cost_5 z = some y → K z.2.2.2.2.1 → K y.2.1 := by
  intro z h
  unfold LX12_cost_5 at h
  exact loop_ind (fun rec z => fX12_cost_5 rec z.1 z.2.1 z.2.2.1 z.2.2.2.1 z.2.2.2.2.1 z.2.2.2.2.2) (y := y) (P := fun z => K z.2.2.2.2.1 → K y.2.1) (fun rec hrec z h hk => kfX12_cost_5 hK hrec h hk) z h
theorem kfX12_cost {K : Sg → Prop} (hK : KWm K) {v1 : Int32} {v2 : Int32} {sg : Sg} {lg : Lg} {y : Int64 × Sg × Lg} (h : fX12_cost v1 v2 sg lg = some y) (hk : K sg) : K y.2.1 := by
  unfold fX12_cost at h
  exact kLX12_cost_5 hK  _ h hk
theorem kfX12_fillState_163 {K : Sg → Prop} (hK : KWm K) {r26 : (Int32 × Int32 × Int32 × Int32 × Sg × Lg) → Option (Sg × Lg)} {v1 : Int32} {v2 : Int32} {v3 : Int32} {v4 : Int32} {w0 : Int64} {w1 : Int64} {w2 : Int32} {sg : Sg} {lg : Lg} {y : Sg × Lg} (hr26 : ∀ z, r26 z = some y → K z.2.2.2.2.1 → K y.1) (h : fX12_fillState_163 r26 v1 v2 v3 v4 w0 w1 w2 sg lg = some y) (hk : K sg) : K y.1 := by
  unfold fX12_fillState_163 at h
  obtain ⟨x1, ex1, h⟩ := p_lt h
  replace h := p_gin h
  obtain ⟨lg3, elg3, h⟩ := p_lt h
  exact kfX12_fillState_165 hK hr26 h hk
theorem kfX12_fillState_162 {K : Sg → Prop} (hK : KWm K) {r26 : (Int32 × Int32 × Int32 × Int32 × Sg × Lg) → Option (Sg × Lg)} {v1 : Int32} {v2 : Int32} {v3 : Int32} {v4 : Int32} {w0 : Int64} {w1 : Int32} {sg : Sg} {lg : Lg} {y : Sg × Lg} (hr26 : ∀ z, r26 z = some y → K z.2.2.2.2.1 → K y.1) (h : fX12_fillState_162 r26 v1 v2 v3 v4 w0 w1 sg lg = some y) (hk : K sg) : K y.1 := by
  unfold fX12_fillState_162 at h
  exact kfX12_fillState_163 hK hr26 h hk
theorem kfX12_fillState_124 {K : Sg → Prop} (hK : KWm K) {r26 : (Int32 × Int32 × Int32 × Int32 × Sg × Lg) → Option (Sg × Lg)} {v1 : Int32} {v2 : Int32} {v3 : Int32} {v4 : Int32} {v5 : Int32} {v6 : Int64} {sg : Sg} {lg : Lg} {y : Sg × Lg} (hr26 : ∀ z, r26 z = some y → K z.2.2.2.2.1 → K y.1) (h : fX12_fillState_124 r26 v1 v2 v3 v4 v5 v6 sg lg = some y) (hk : K sg) : K y.1 := by
  unfold fX12_fillState_124 at h
  replace h := p_gin h
  rcases p_ite h with h | h
  · skip
    exact kfX12_fillState_162 hK hr26 h hk
  · skip
    replace h := p_gin h
    rcases p_ite h with h | h
    · skip
      replace h := p_gin h
      exact kfX12_fillState_163 hK hr26 h hk
    · skip
      exact kfX12_fillState_162 hK hr26 h hk
theorem kfX12_fillState_95 {K : Sg → Prop} (hK : KWm K) {r26 : (Int32 × Int32 × Int32 × Int32 × Sg × Lg) → Option (Sg × Lg)} {v1 : Int32} {v2 : Int32} {v3 : Int32} {v4 : Int32} {v5 : Int32} {w0 : Int64} {sg : Sg} {lg : Lg} {y : Sg × Lg} (hr26 : ∀ z, r26 z = some y → K z.2.2.2.2.1 → K y.1) (h : fX12_fillState_95 r26 v1 v2 v3 v4 v5 w0 sg lg = some y) (hk : K sg) : K y.1 := by
  unfold fX12_fillState_95 at h
  replace h := p_gin h
  rcases p_ite h with h | h
  · skip
    exact kfX12_fillState_124 hK hr26 h hk
  · skip
    replace h := p_gin h
    obtain ⟨lg4, elg4, h⟩ := p_lt h
    replace h := p_gin h
    obtain ⟨lg6, elg6, h⟩ := p_lt h
    exact kfX12_fillState_124 hK hr26 h hk
theorem kfX12_fillState_26 {K : Sg → Prop} (hK : KWm K) {r26 : (Int32 × Int32 × Int32 × Int32 × Sg × Lg) → Option (Sg × Lg)} {v1 : Int32} {v2 : Int32} {v3 : Int32} {v4 : Int32} {sg : Sg} {lg : Lg} {y : Sg × Lg} (hr26 : ∀ z, r26 z = some y → K z.2.2.2.2.1 → K y.1) (h : fX12_fillState_26 r26 v1 v2 v3 v4 sg lg = some y) (hk : K sg) : K y.1 := by
  unfold fX12_fillState_26 at h
  obtain ⟨y1, sg2, lg3, clg3, h⟩ := p_bnd3 h
  have qsg2 : K sg2 := kfX12_hens hK  clg3 hk
  rcases p_ite h with h | h
  · skip
    cases h
    exact qsg2
  · skip
    obtain ⟨y6, sg7, lg8, clg8, h⟩ := p_bnd3 h
    have qsg7 : K sg7 := kfX12_mayCome hK  clg8 qsg2
    rcases p_ite h with h | h
    · skip
      exact kfX12_fillState_165 hK hr26 h qsg7
    · skip
      obtain ⟨x11, ex11, h⟩ := p_lt h
      replace h := p_gin h
      rcases p_ite h with h | h
      · skip
        obtain ⟨y14, sg15, lg16, clg16, h⟩ := p_bnd3 h
        have qsg15 : K sg15 := kfX12_cost hK  clg16 qsg7
        replace h := p_gin h
        exact kfX12_fillState_95 hK hr26 h qsg15
      · skip
        exact kfX12_fillState_95 hK hr26 h qsg7
theorem kLX12_fillState_26 {K : Sg → Prop} (hK : KWm K) {y : Sg × Lg} : ∀ z, LX12_fillState_26 z = some y → K z.2.2.2.2.1 → K y.1 := by
  intro z h
  unfold LX12_fillState_26 at h
  exact loop_ind (fun rec z => fX12_fillState_26 rec z.1 z.2.1 z.2.2.1 z.2.2.2.1 z.2.2.2.2.1 z.2.2.2.2.2) (y := y) (P := fun z => K z.2.2.2.2.1 → K y.1) (fun rec hrec z h hk => kfX12_fillState_26 hK hrec h hk) z h
theorem kfX12_fillState {K : Sg → Prop} (hK : KWm K) {v1 : Int32} {v2 : Int32} {sg : Sg} {lg : Lg} {y : Sg × Lg} (h : fX12_fillState v1 v2 sg lg = some y) (hk : K sg) : K y.1 := by
  unfold fX12_fillState at h
  obtain ⟨x1, ex1, h⟩ := p_lt h
  replace h := p_gin h
  obtain ⟨lg3, elg3, h⟩ := p_lt h
  replace h := p_gin h
  obtain ⟨lg5, elg5, h⟩ := p_lt h
  exact kLX12_fillState_26 hK  _ h hk
theorem kfX12_fill_131 {K : Sg → Prop} (hK : KWm K) {r25 : (Int32 × Int32 × Sg × Lg) → Option (Sg × Lg)} {r43 : (Int32 × Int32 × Int32 × Sg × Lg) → Option (Sg × Lg)} {v4 : Int32} {v5 : Int32} {v6 : Int32} {v7 : Int32} {sg : Sg} {lg : Lg} {y : Sg × Lg} (hr25 : ∀ z, r25 z = some y → K z.2.2.1 → K y.1) (hr43 : ∀ z, r43 z = some y → K z.2.2.2.1 → K y.1) (h : fX12_fill_131 r25 r43 v4 v5 v6 v7 sg lg = some y) (hk : K sg) : K y.1 := by
  unfold fX12_fill_131 at h
  rcases p_ite h with h | h
  · skip
    exact kfX12_fill_144 hK hr25 hr43 h hk
  · skip
    obtain ⟨sg2, lg3, clg3, h⟩ := p_bnd2 h
    have qsg2 : K sg2 := kfX12_fillState hK  clg3 hk
    exact kfX12_fill_144 hK hr25 hr43 h qsg2
theorem kfX12_fill_86 {K : Sg → Prop} (hK : KWm K) {r25 : (Int32 × Int32 × Sg × Lg) → Option (Sg × Lg)} {r43 : (Int32 × Int32 × Int32 × Sg × Lg) → Option (Sg × Lg)} {v4 : Int32} {v5 : Int32} {v6 : Int32} {w0 : Int32} {sg : Sg} {lg : Lg} {y : Sg × Lg} (hr25 : ∀ z, r25 z = some y → K z.2.2.1 → K y.1) (hr43 : ∀ z, r43 z = some y → K z.2.2.2.1 → K y.1) (h : fX12_fill_86 r25 r43 v4 v5 v6 w0 sg lg = some y) (hk : K sg) : K y.1 := by
  unfold fX12_fill_86 at h
  rcases p_ite h with h | h
  · skip
    exact kfX12_fill_131 hK hr25 hr43 h hk
  · skip
    rcases p_ite h with h | h
    · skip
      replace h := p_gin h
      obtain ⟨lg4, elg4, h⟩ := p_lt h
      replace h := p_gin h
      obtain ⟨lg6, elg6, h⟩ := p_lt h
      exact kfX12_fill_144 hK hr25 hr43 h hk
    · skip
      exact kfX12_fill_131 hK hr25 hr43 h hk
theorem kfX12_fill_43 {K : Sg → Prop} (hK : KWm K) {r25 : (Int32 × Int32 × Sg × Lg) → Option (Sg × Lg)} {r43 : (Int32 × Int32 × Int32 × Sg × Lg) → Option (Sg × Lg)} {v4 : Int32} {v5 : Int32} {v6 : Int32} {sg : Sg} {lg : Lg} {y : Sg × Lg} (hr25 : ∀ z, r25 z = some y → K z.2.2.1 → K y.1) (hr43 : ∀ z, r43 z = some y → K z.2.2.2.1 → K y.1) (h : fX12_fill_43 r25 r43 v4 v5 v6 sg lg = some y) (hk : K sg) : K y.1 := by
  unfold fX12_fill_43 at h
  rcases p_ite h with h | h
  · skip
    exact kfX12_fill_150 hK hr25 h hk
  · skip
    rcases p_ite h with h | h
    · skip
      rcases p_ite h with h | h
      · skip
        exact kfX12_fill_86 hK hr25 hr43 h hk
      · skip
        exact kfX12_fill_86 hK hr25 hr43 h hk
    · skip
      rcases p_ite h with h | h
      · skip
        exact kfX12_fill_86 hK hr25 hr43 h hk
      · skip
        exact kfX12_fill_86 hK hr25 hr43 h hk
theorem kLX12_fill_43 {K : Sg → Prop} (hK : KWm K) {r25 : (Int32 × Int32 × Sg × Lg) → Option (Sg × Lg)} {y : Sg × Lg} (hr25 : ∀ z, r25 z = some y → K z.2.2.1 → K y.1) : ∀ z, LX12_fill_43 r25 z = some y → K z.2.2.2.1 → K y.1 := by
  intro z h
  unfold LX12_fill_43 at h
  exact loop_ind (fun rec z => fX12_fill_43 r25 rec z.1 z.2.1 z.2.2.1 z.2.2.2.1 z.2.2.2.2) (y := y) (P := fun z => K z.2.2.2.1 → K y.1) (fun rec hrec z h hk => kfX12_fill_43 hK hr25 hrec h hk) z h
theorem kfX12_fill_25 {K : Sg → Prop} (hK : KWm K) {r25 : (Int32 × Int32 × Sg × Lg) → Option (Sg × Lg)} {v4 : Int32} {v5 : Int32} {sg : Sg} {lg : Lg} {y : Sg × Lg} (hr25 : ∀ z, r25 z = some y → K z.2.2.1 → K y.1) (h : fX12_fill_25 r25 v4 v5 sg lg = some y) (hk : K sg) : K y.1 := by
  unfold fX12_fill_25 at h
  rcases p_ite h with h | h
  · skip
    cases h
    exact hk
  · skip
    rcases p_ite h with h | h
    · skip
      exact kLX12_fill_43 hK hr25 _ h hk
    · skip
      exact kfX12_fill_150 hK hr25 h hk
theorem kLX12_fill_25 {K : Sg → Prop} (hK : KWm K) {y : Sg × Lg} : ∀ z, LX12_fill_25 z = some y → K z.2.2.1 → K y.1 := by
  intro z h
  unfold LX12_fill_25 at h
  exact loop_ind (fun rec z => fX12_fill_25 rec z.1 z.2.1 z.2.2.1 z.2.2.2) (y := y) (P := fun z => K z.2.2.1 → K y.1) (fun rec hrec z h hk => kfX12_fill_25 hK hrec h hk) z h
theorem kfX12_fill {K : Sg → Prop} (hK : KWm K) {v1 : Int32} {v2 : Int32} {v3 : Int32} {sg : Sg} {lg : Lg} {y : Sg × Lg} (h : fX12_fill v1 v2 v3 sg lg = some y) (hk : K sg) : K y.1 := by
  unfold fX12_fill at h
  replace h := p_gz h
  obtain ⟨sg2, esg2, h⟩ := p_lt h
  have qsg2 : K sg2 := by rw [esg2]; exact hK _ _ _ _ rfl hk
  obtain ⟨sg3, esg3, h⟩ := p_lt h
  have qsg3 : K sg3 := by rw [esg3]; exact hK _ _ _ _ rfl qsg2
  obtain ⟨sg4, esg4, h⟩ := p_lt h
  have qsg4 : K sg4 := by rw [esg4]; exact hK _ _ _ _ rfl qsg3
  obtain ⟨y5, sg6, lg7, clg7, h⟩ := p_bnd3 h
  have qsg6 : K sg6 := kfX12_counting hK  clg7 qsg4
  exact kLX12_fill_25 hK  _ h qsg6
theorem kfX12_begun {K : Sg → Prop} (hK : KWm K) {sg : Sg} {lg : Lg} {y : Int32 × Sg × Lg} (h : fX12_begun sg lg = some y) (hk : K sg) : K y.2.1 := by
  unfold fX12_begun at h
  cases h
  exact hk
theorem kfX12_loose {K : Sg → Prop} (hK : KWm K) {sg : Sg} {lg : Lg} {y : Int64 × Sg × Lg} (h : fX12_loose sg lg = some y) (hk : K sg) : K y.2.1 := by
  unfold fX12_loose at h
  obtain ⟨sg1, lg2, clg2, h⟩ := p_bnd2 h
  have qsg1 : K sg1 := kfX12_fill hK  clg2 hk
  obtain ⟨y4, sg5, lg6, clg6, h⟩ := p_bnd3 h
  have qsg5 : K sg5 := kfX12_begun hK  clg6 qsg1
  replace h := p_gin h
  cases h
  exact qsg5
theorem kfX12_least {K : Sg → Prop} (hK : KWm K) {sg : Sg} {lg : Lg} {y : Int64 × Sg × Lg} (h : fX12_least sg lg = some y) (hk : K sg) : K y.2.1 := by
  unfold fX12_least at h
  obtain ⟨sg1, lg2, clg2, h⟩ := p_bnd2 h
  have qsg1 : K sg1 := kfX12_fill hK  clg2 hk
  obtain ⟨y4, sg5, lg6, clg6, h⟩ := p_bnd3 h
  have qsg5 : K sg5 := kfX12_begun hK  clg6 qsg1
  replace h := p_gin h
  rcases p_ite h with h | h
  · skip
    obtain ⟨y10, sg11, lg12, clg12, h⟩ := p_bnd3 h
    have qsg11 : K sg11 := kfX12_begun hK  clg12 qsg5
    replace h := p_gin h
    cases h
    exact qsg11
  · skip
    cases h
    exact qsg5
theorem kfX12_many {K : Sg → Prop} (hK : KWm K) {sg : Sg} {lg : Lg} {y : Int64 × Sg × Lg} (h : fX12_many sg lg = some y) (hk : K sg) : K y.2.1 := by
  unfold fX12_many at h
  obtain ⟨sg1, lg2, clg2, h⟩ := p_bnd2 h
  have qsg1 : K sg1 := kfX12_fill hK  clg2 hk
  obtain ⟨y4, sg5, lg6, clg6, h⟩ := p_bnd3 h
  have qsg5 : K sg5 := kfX12_begun hK  clg6 qsg1
  replace h := p_gin h
  cases h
  exact qsg5
theorem kfX12_sure_111 {K : Sg → Prop} (hK : KWm K) {v5 : Int64} {w0 : Int64} {sg : Sg} {lg : Lg} {y : Int64 × Sg × Lg} (h : fX12_sure_111 v5 w0 sg lg = some y) (hk : K sg) : K y.2.1 := by
  unfold fX12_sure_111 at h
  rcases p_ite h with h | h
  · skip
    cases h
    exact hk
  · skip
    rcases p_ite h with h | h
    · skip
      cases h
      exact hk
    · skip
      cases h
      exact hk
theorem kfX12_sure {K : Sg → Prop} (hK : KWm K) {v1 : Int32} {v2 : Int32} {sg : Sg} {lg : Lg} {y : Int64 × Sg × Lg} (h : fX12_sure v1 v2 sg lg = some y) (hk : K sg) : K y.2.1 := by
  unfold fX12_sure at h
  obtain ⟨y1, sg2, lg3, clg3, h⟩ := p_bnd3 h
  have qsg2 : K sg2 := kfX12_isHen hK  clg3 hk
  rcases p_ite h with h | h
  · skip
    cases h
    exact qsg2
  · skip
    obtain ⟨y6, sg7, lg8, clg8, h⟩ := p_bnd3 h
    have qsg7 : K sg7 := kfX12_isHen hK  clg8 qsg2
    rcases p_ite h with h | h
    · skip
      cases h
      exact qsg7
    · skip
      rcases p_ite h with h | h
      · skip
        cases h
        exact qsg7
      · skip
        obtain ⟨y12, sg13, lg14, clg14, h⟩ := p_bnd3 h
        have qsg13 : K sg13 := kfX12_counts hK  clg14 qsg7
        rcases p_ite h with h | h
        · skip
          cases h
          exact qsg13
        · skip
          obtain ⟨y17, sg18, lg19, clg19, h⟩ := p_bnd3 h
          have qsg18 : K sg18 := kfX12_counts hK  clg19 qsg13
          rcases p_ite h with h | h
          · skip
            cases h
            exact qsg18
          · skip
            obtain ⟨sg22, lg23, clg23, h⟩ := p_bnd2 h
            have qsg22 : K sg22 := kfX12_fill hK  clg23 qsg18
            obtain ⟨y25, sg26, lg27, clg27, h⟩ := p_bnd3 h
            have qsg26 : K sg26 := kfX12_begun hK  clg27 qsg22
            replace h := p_gin h
            obtain ⟨x30, ex30, h⟩ := p_lt h
            obtain ⟨y31, sg32, lg33, clg33, h⟩ := p_bnd3 h
            have qsg32 : K sg32 := kfX12_begun hK  clg33 qsg26
            replace h := p_gin h
            obtain ⟨x36, ex36, h⟩ := p_lt h
            rcases p_ite h with h | h
            · skip
              obtain ⟨sg38, lg39, clg39, h⟩ := p_bnd2 h
              have qsg38 : K sg38 := kfX12_fill hK  clg39 qsg32
              obtain ⟨y41, sg42, lg43, clg43, h⟩ := p_bnd3 h
              have qsg42 : K sg42 := kfX12_begun hK  clg43 qsg38
              replace h := p_gin h
              rcases p_ite h with h | h
              · skip
                obtain ⟨y47, sg48, lg49, clg49, h⟩ := p_bnd3 h
                have qsg48 : K sg48 := kfX12_begun hK  clg49 qsg42
                replace h := p_gin h
                exact kfX12_sure_111 hK  h qsg48
              · skip
                exact kfX12_sure_111 hK  h qsg42
            · skip
              cases h
              exact qsg32
theorem kfX12_closes_141 {K : Sg → Prop} (hK : KWm K) {rc : Int32 × Int32 × Sg × Lg → Option (Int32 × Sg × Lg)} {r49 : (Int32 × Int32 × Int32 × Int32 × Sg × Lg) → Option (Int32 × Sg × Lg)} {v1 : Int32} {v2 : Int32} {v3 : Int32} {v4 : Int32} {sg : Sg} {lg : Lg} {y : Int32 × Sg × Lg} (hrc : ∀ z y, rc z = some y → K z.2.2.1 → K y.2.1) (hr49 : ∀ z, r49 z = some y → K z.2.2.2.2.1 → K y.2.1) (h : fX12_closes_141 rc r49 v1 v2 v3 v4 sg lg = some y) (hk : K sg) : K y.2.1 := by
  unfold fX12_closes_141 at h
  obtain ⟨x1, ex1, h⟩ := p_lt h
  exact hr49 _ h hk
theorem kfX12_closes_92 {K : Sg → Prop} (hK : KWm K) {rc : Int32 × Int32 × Sg × Lg → Option (Int32 × Sg × Lg)} {r49 : (Int32 × Int32 × Int32 × Int32 × Sg × Lg) → Option (Int32 × Sg × Lg)} {r64 : (Int32 × Int32 × Int32 × Int32 × Int32 × Int32 × Sg × Lg) → Option (Int32 × Sg × Lg)} {v1 : Int32} {v2 : Int32} {v3 : Int32} {v4 : Int32} {v6 : Int32} {w0 : Int32} {sg : Sg} {lg : Lg} {y : Int32 × Sg × Lg} (hrc : ∀ z y, rc z = some y → K z.2.2.1 → K y.2.1) (hr49 : ∀ z, r49 z = some y → K z.2.2.2.2.1 → K y.2.1) (hr64 : ∀ z, r64 z = some y → K z.2.2.2.2.2.2.1 → K y.2.1) (h : fX12_closes_92 rc r49 r64 v1 v2 v3 v4 v6 w0 sg lg = some y) (hk : K sg) : K y.2.1 := by
  unfold fX12_closes_92 at h
  obtain ⟨x1, ex1, h⟩ := p_lt h
  exact hr64 _ h hk
theorem kfX12_closes_87 {K : Sg → Prop} (hK : KWm K) {rc : Int32 × Int32 × Sg × Lg → Option (Int32 × Sg × Lg)} {r49 : (Int32 × Int32 × Int32 × Int32 × Sg × Lg) → Option (Int32 × Sg × Lg)} {r64 : (Int32 × Int32 × Int32 × Int32 × Int32 × Int32 × Sg × Lg) → Option (Int32 × Sg × Lg)} {v1 : Int32} {v2 : Int32} {v3 : Int32} {v4 : Int32} {v6 : Int32} {sg : Sg} {lg : Lg} {y : Int32 × Sg × Lg} (hrc : ∀ z y, rc z = some y → K z.2.2.1 → K y.2.1) (hr49 : ∀ z, r49 z = some y → K z.2.2.2.2.1 → K y.2.1) (hr64 : ∀ z, r64 z = some y → K z.2.2.2.2.2.2.1 → K y.2.1) (h : fX12_closes_87 rc r49 r64 v1 v2 v3 v4 v6 sg lg = some y) (hk : K sg) : K y.2.1 := by
  unfold fX12_closes_87 at h
  exact kfX12_closes_92 hK hrc hr49 hr64 h hk
theorem kfX12_closes_64 {K : Sg → Prop} (hK : KWm K) {rc : Int32 × Int32 × Sg × Lg → Option (Int32 × Sg × Lg)} {r49 : (Int32 × Int32 × Int32 × Int32 × Sg × Lg) → Option (Int32 × Sg × Lg)} {r64 : (Int32 × Int32 × Int32 × Int32 × Int32 × Int32 × Sg × Lg) → Option (Int32 × Sg × Lg)} {v1 : Int32} {v2 : Int32} {v3 : Int32} {v4 : Int32} {v5 : Int32} {v6 : Int32} {sg : Sg} {lg : Lg} {y : Int32 × Sg × Lg} (hrc : ∀ z y, rc z = some y → K z.2.2.1 → K y.2.1) (hr49 : ∀ z, r49 z = some y → K z.2.2.2.2.1 → K y.2.1) (hr64 : ∀ z, r64 z = some y → K z.2.2.2.2.2.2.1 → K y.2.1) (h : fX12_closes_64 rc r49 r64 v1 v2 v3 v4 v5 v6 sg lg = some y) (hk : K sg) : K y.2.1 := by
  unfold fX12_closes_64 at h
  rcases p_ite h with h | h
  · skip
    rcases p_ite h with h | h
    · skip
      obtain ⟨x3, ex3, h⟩ := p_lt h
      replace h := p_gin h
      rcases p_ite h with h | h
      · skip
        exact kfX12_closes_141 hK hrc hr49 h hk
      · skip
        replace h := p_gin h
        obtain ⟨sg7, esg7, h⟩ := p_lt h
        have qsg7 : K sg7 := by rw [esg7]; exact hK _ _ _ _ rfl hk
        obtain ⟨y8, sg9, lg10, clg10, h⟩ := p_bnd3 h
        have qsg9 : K sg9 := hrc _ _ clg10 qsg7
        rcases p_ite h with h | h
        · skip
          exact kfX12_closes_141 hK hrc hr49 h qsg9
        · skip
          cases h
          exact qsg9
    · skip
      exact kfX12_closes_141 hK hrc hr49 h hk
  · skip
    rcases p_ite h with h | h
    · skip
      replace h := p_gin h
      rcases p_ite h with h | h
      · skip
        exact kfX12_closes_87 hK hrc hr49 hr64 h hk
      · skip
        exact kfX12_closes_92 hK hrc hr49 hr64 h hk
    · skip
      exact kfX12_closes_87 hK hrc hr49 hr64 h hk
theorem kLX12_closes_64 {K : Sg → Prop} (hK : KWm K) {rc : Int32 × Int32 × Sg × Lg → Option (Int32 × Sg × Lg)} {r49 : (Int32 × Int32 × Int32 × Int32 × Sg × Lg) → Option (Int32 × Sg × Lg)} {y : Int32 × Sg × Lg} (hrc : ∀ z y, rc z = some y → K z.2.2.1 → K y.2.1) (hr49 : ∀ z, r49 z = some y → K z.2.2.2.2.1 → K y.2.1) : ∀ z, LX12_closes_64 rc r49 z = some y → K z.2.2.2.2.2.2.1 → K y.2.1 := by
  intro z h
  unfold LX12_closes_64 at h
  exact loop_ind (fun rec z => fX12_closes_64 rc r49 rec z.1 z.2.1 z.2.2.1 z.2.2.2.1 z.2.2.2.2.1 z.2.2.2.2.2.1 z.2.2.2.2.2.2.1 z.2.2.2.2.2.2.2) (y := y) (P := fun z => K z.2.2.2.2.2.2.1 → K y.2.1) (fun rec hrec z h hk => kfX12_closes_64 hK hrc hr49 hrec h hk) z h
theorem kfX12_closes_49 {K : Sg → Prop} (hK : KWm K) {rc : Int32 × Int32 × Sg × Lg → Option (Int32 × Sg × Lg)} {r49 : (Int32 × Int32 × Int32 × Int32 × Sg × Lg) → Option (Int32 × Sg × Lg)} {v1 : Int32} {v2 : Int32} {v3 : Int32} {v4 : Int32} {sg : Sg} {lg : Lg} {y : Int32 × Sg × Lg} (hrc : ∀ z y, rc z = some y → K z.2.2.1 → K y.2.1) (hr49 : ∀ z, r49 z = some y → K z.2.2.2.2.1 → K y.2.1) (h : fX12_closes_49 rc r49 v1 v2 v3 v4 sg lg = some y) (hk : K sg) : K y.2.1 := by
  unfold fX12_closes_49 at h
  obtain ⟨y1, sg2, lg3, clg3, h⟩ := p_bnd3 h
  have qsg2 : K sg2 := kfX12_hens hK  clg3 hk
  rcases p_ite h with h | h
  · skip
    cases h
    exact qsg2
  · skip
    exact kLX12_closes_64 hK hrc hr49 _ h qsg2
theorem kLX12_closes_49 {K : Sg → Prop} (hK : KWm K) {rc : Int32 × Int32 × Sg × Lg → Option (Int32 × Sg × Lg)} {y : Int32 × Sg × Lg} (hrc : ∀ z y, rc z = some y → K z.2.2.1 → K y.2.1) : ∀ z, LX12_closes_49 rc z = some y → K z.2.2.2.2.1 → K y.2.1 := by
  intro z h
  unfold LX12_closes_49 at h
  exact loop_ind (fun rec z => fX12_closes_49 rc rec z.1 z.2.1 z.2.2.1 z.2.2.2.1 z.2.2.2.2.1 z.2.2.2.2.2) (y := y) (P := fun z => K z.2.2.2.2.1 → K y.2.1) (fun rec hrec z h hk => kfX12_closes_49 hK hrc hrec h hk) z h
theorem kbX12_closes {K : Sg → Prop} (hK : KWm K) {rc : Int32 × Int32 × Sg × Lg → Option (Int32 × Sg × Lg)} {v1 : Int32} {v2 : Int32} {sg : Sg} {lg : Lg} {y : Int32 × Sg × Lg} (hrc : ∀ z y, rc z = some y → K z.2.2.1 → K y.2.1) (h : bX12_closes rc v1 v2 sg lg = some y) (hk : K sg) : K y.2.1 := by
  unfold bX12_closes at h
  obtain ⟨x1, ex1, h⟩ := p_lt h
  replace h := p_gin h
  obtain ⟨x3, ex3, h⟩ := p_lt h
  rcases p_ite h with h | h
  · skip
    replace h := p_gin h
    obtain ⟨x8, ex8, h⟩ := p_lt h
    replace h := p_gin h
    rcases p_ite h with h | h
    · skip
      cases h
      exact hk
    · skip
      cases h
      exact hk
  · skip
    replace h := p_gin h
    obtain ⟨x6, ex6, h⟩ := p_lt h
    exact kLX12_closes_49 hK hrc _ h hk
theorem kfX12_closes {K : Sg → Prop} (hK : KWm K) {v1 v2 : Int32} {sg : Sg} {lg : Lg} {y : Int32 × Sg × Lg} (h : fX12_closes v1 v2 sg lg = some y) (hk : K sg) : K y.2.1 := by
  have key : ∀ (d : Nat) (z : Int32 × Int32 × Sg × Lg) (y : Int32 × Sg × Lg), itr (fun rc z => bX12_closes rc z.1 z.2.1 z.2.2.1 z.2.2.2) d z = some y → K z.2.2.1 → K y.2.1 := by
    intro d
    induction d with
    | zero => intro z y h _; cases h
    | succ d ih => intro z y h hk; exact kbX12_closes hK ih (show bX12_closes (itr (fun rc z => bX12_closes rc z.1 z.2.1 z.2.2.1 z.2.2.2) d) z.1 z.2.1 z.2.2.1 z.2.2.2 = some y from h) hk
  unfold fX12_closes at h
  exact key 20 (v1, v2, sg, lg) y h hk
theorem kfX12_ringNext_12 {K : Sg → Prop} (hK : KWm K) {r2 : (Int32 × Sg × Lg) → Option (Int32 × Sg × Lg)} {r12 : (Int32 × Int32 × Sg × Lg) → Option (Int32 × Sg × Lg)} {v1 : Int32} {v2 : Int32} {sg : Sg} {lg : Lg} {y : Int32 × Sg × Lg} (hr2 : ∀ z, r2 z = some y → K z.2.1 → K y.2.1) (hr12 : ∀ z, r12 z = some y → K z.2.2.1 → K y.2.1) (h : fX12_ringNext_12 r2 r12 v1 v2 sg lg = some y) (hk : K sg) : K y.2.1 := by
  unfold fX12_ringNext_12 at h
  obtain ⟨y1, sg2, lg3, clg3, h⟩ := p_bnd3 h
  have qsg2 : K sg2 := kfX12_hens hK  clg3 hk
  rcases p_ite h with h | h
  · skip
    obtain ⟨x6, ex6, h⟩ := p_lt h
    exact hr2 _ h qsg2
  · skip
    replace h := p_gin h
    obtain ⟨sg8, esg8, h⟩ := p_lt h
    have qsg8 : K sg8 := by rw [esg8]; exact hK _ _ _ _ rfl qsg2
    obtain ⟨y9, sg10, lg11, clg11, h⟩ := p_bnd3 h
    have qsg10 : K sg10 := kfX12_closes hK clg11 qsg8
    rcases p_ite h with h | h
    · skip
      obtain ⟨x14, ex14, h⟩ := p_lt h
      exact hr12 _ h qsg10
    · skip
      cases h
      exact qsg10
theorem kLX12_ringNext_12 {K : Sg → Prop} (hK : KWm K) {r2 : (Int32 × Sg × Lg) → Option (Int32 × Sg × Lg)} {y : Int32 × Sg × Lg} (hr2 : ∀ z, r2 z = some y → K z.2.1 → K y.2.1) : ∀ z, LX12_ringNext_12 r2 z = some y → K z.2.2.1 → K y.2.1 := by
  intro z h
  unfold LX12_ringNext_12 at h
  exact loop_ind (fun rec z => fX12_ringNext_12 r2 rec z.1 z.2.1 z.2.2.1 z.2.2.2) (y := y) (P := fun z => K z.2.2.1 → K y.2.1) (fun rec hrec z h hk => kfX12_ringNext_12 hK hr2 hrec h hk) z h
theorem kfX12_ringNext_2 {K : Sg → Prop} (hK : KWm K) {r2 : (Int32 × Sg × Lg) → Option (Int32 × Sg × Lg)} {v1 : Int32} {sg : Sg} {lg : Lg} {y : Int32 × Sg × Lg} (hr2 : ∀ z, r2 z = some y → K z.2.1 → K y.2.1) (h : fX12_ringNext_2 r2 v1 sg lg = some y) (hk : K sg) : K y.2.1 := by
  unfold fX12_ringNext_2 at h
  obtain ⟨y1, sg2, lg3, clg3, h⟩ := p_bnd3 h
  have qsg2 : K sg2 := kfX12_hens hK  clg3 hk
  rcases p_ite h with h | h
  · skip
    cases h
    exact qsg2
  · skip
    exact kLX12_ringNext_12 hK hr2 _ h qsg2
theorem kLX12_ringNext_2 {K : Sg → Prop} (hK : KWm K) {y : Int32 × Sg × Lg} : ∀ z, LX12_ringNext_2 z = some y → K z.2.1 → K y.2.1 := by
  intro z h
  unfold LX12_ringNext_2 at h
  exact loop_ind (fun rec z => fX12_ringNext_2 rec z.1 z.2.1 z.2.2) (y := y) (P := fun z => K z.2.1 → K y.2.1) (fun rec hrec z h hk => kfX12_ringNext_2 hK hrec h hk) z h
theorem kfX12_ringNext {K : Sg → Prop} (hK : KWm K) {sg : Sg} {lg : Lg} {y : Int32 × Sg × Lg} (h : fX12_ringNext sg lg = some y) (hk : K sg) : K y.2.1 := by
  unfold fX12_ringNext at h
  exact kLX12_ringNext_2 hK  _ h hk
theorem kfX12_pack_181 {K : Sg → Prop} (hK : KWm K) {r77 : (Int64 × Int32 × Sg × Lg) → Option (Int64 × Sg × Lg)} {r181 : (Int64 × Int32 × Int64 × Int32 × Sg × Lg) → Option (Int64 × Sg × Lg)} {v1 : Int64} {v3 : Int32} {v4 : Int64} {v6 : Int32} {sg : Sg} {lg : Lg} {y : Int64 × Sg × Lg} (hr77 : ∀ z, r77 z = some y → K z.2.2.1 → K y.2.1) (hr181 : ∀ z, r181 z = some y → K z.2.2.2.2.1 → K y.2.1) (h : fX12_pack_181 r77 r181 v1 v3 v4 v6 sg lg = some y) (hk : K sg) : K y.2.1 := by
  unfold fX12_pack_181 at h
  rcases p_ite h with h | h
  · skip
    obtain ⟨x2, ex2, h⟩ := p_lt h
    obtain ⟨sg3, esg3, h⟩ := p_lt h
    have qsg3 : K sg3 := by rw [esg3]; exact hK _ _ _ _ rfl hk
    obtain ⟨x4, ex4, h⟩ := p_lt h
    obtain ⟨y5, sg6, lg7, clg7, h⟩ := p_bnd3 h
    have qsg6 : K sg6 := kfX12_ringNext hK  clg7 qsg3
    exact hr77 _ h qsg6
  · skip
    replace h := p_gin h
    obtain ⟨x10, ex10, h⟩ := p_lt h
    replace h := p_gin h
    obtain ⟨lg12, elg12, h⟩ := p_lt h
    replace h := p_gin h
    replace h := p_gne h
    obtain ⟨x15, ex15, h⟩ := p_lt h
    replace h := p_gin h
    obtain ⟨x17, ex17, h⟩ := p_lt h
    replace h := p_gin h
    obtain ⟨x19, ex19, h⟩ := p_lt h
    replace h := p_gin h
    obtain ⟨sg21, esg21, h⟩ := p_lt h
    have qsg21 : K sg21 := by rw [esg21]; exact hK _ _ _ _ rfl hk
    obtain ⟨x22, ex22, h⟩ := p_lt h
    exact hr181 _ h qsg21
theorem kLX12_pack_181 {K : Sg → Prop} (hK : KWm K) {r77 : (Int64 × Int32 × Sg × Lg) → Option (Int64 × Sg × Lg)} {y : Int64 × Sg × Lg} (hr77 : ∀ z, r77 z = some y → K z.2.2.1 → K y.2.1) : ∀ z, LX12_pack_181 r77 z = some y → K z.2.2.2.2.1 → K y.2.1 := by
  intro z h
  unfold LX12_pack_181 at h
  exact loop_ind (fun rec z => fX12_pack_181 r77 rec z.1 z.2.1 z.2.2.1 z.2.2.2.1 z.2.2.2.2.1 z.2.2.2.2.2) (y := y) (P := fun z => K z.2.2.2.2.1 → K y.2.1) (fun rec hrec z h hk => kfX12_pack_181 hK hr77 hrec h hk) z h
theorem kfX12_pack_140 {K : Sg → Prop} (hK : KWm K) {r77 : (Int64 × Int32 × Sg × Lg) → Option (Int64 × Sg × Lg)} {r89 : (Int64 × Int32 × Int64 × Int32 × Sg × Lg) → Option (Int64 × Sg × Lg)} {v1 : Int64} {v3 : Int32} {v6 : Int32} {w0 : Int64} {sg : Sg} {lg : Lg} {y : Int64 × Sg × Lg} (hr77 : ∀ z, r77 z = some y → K z.2.2.1 → K y.2.1) (hr89 : ∀ z, r89 z = some y → K z.2.2.2.2.1 → K y.2.1) (h : fX12_pack_140 r77 r89 v1 v3 v6 w0 sg lg = some y) (hk : K sg) : K y.2.1 := by
  unfold fX12_pack_140 at h
  obtain ⟨x1, ex1, h⟩ := p_lt h
  exact hr89 _ h hk
theorem kfX12_pack_89 {K : Sg → Prop} (hK : KWm K) {r77 : (Int64 × Int32 × Sg × Lg) → Option (Int64 × Sg × Lg)} {r89 : (Int64 × Int32 × Int64 × Int32 × Sg × Lg) → Option (Int64 × Sg × Lg)} {v1 : Int64} {v3 : Int32} {v4 : Int64} {v6 : Int32} {sg : Sg} {lg : Lg} {y : Int64 × Sg × Lg} (hr77 : ∀ z, r77 z = some y → K z.2.2.1 → K y.2.1) (hr89 : ∀ z, r89 z = some y → K z.2.2.2.2.1 → K y.2.1) (h : fX12_pack_89 r77 r89 v1 v3 v4 v6 sg lg = some y) (hk : K sg) : K y.2.1 := by
  unfold fX12_pack_89 at h
  rcases p_ite h with h | h
  · skip
    replace h := p_gin h
    obtain ⟨lg3, elg3, h⟩ := p_lt h
    replace h := p_gin h
    obtain ⟨lg5, elg5, h⟩ := p_lt h
    exact kLX12_pack_181 hK hr77 _ h hk
  · skip
    replace h := p_gin h
    replace h := p_gne h
    obtain ⟨x8, ex8, h⟩ := p_lt h
    replace h := p_gin h
    obtain ⟨x10, ex10, h⟩ := p_lt h
    replace h := p_gin h
    obtain ⟨x12, ex12, h⟩ := p_lt h
    rcases p_ite h with h | h
    · skip
      exact kfX12_pack_140 hK hr77 hr89 h hk
    · skip
      exact kfX12_pack_140 hK hr77 hr89 h hk
theorem kLX12_pack_89 {K : Sg → Prop} (hK : KWm K) {r77 : (Int64 × Int32 × Sg × Lg) → Option (Int64 × Sg × Lg)} {y : Int64 × Sg × Lg} (hr77 : ∀ z, r77 z = some y → K z.2.2.1 → K y.2.1) : ∀ z, LX12_pack_89 r77 z = some y → K z.2.2.2.2.1 → K y.2.1 := by
  intro z h
  unfold LX12_pack_89 at h
  exact loop_ind (fun rec z => fX12_pack_89 r77 rec z.1 z.2.1 z.2.2.1 z.2.2.2.1 z.2.2.2.2.1 z.2.2.2.2.2) (y := y) (P := fun z => K z.2.2.2.2.1 → K y.2.1) (fun rec hrec z h hk => kfX12_pack_89 hK hr77 hrec h hk) z h
theorem kfX12_pack_77 {K : Sg → Prop} (hK : KWm K) {r77 : (Int64 × Int32 × Sg × Lg) → Option (Int64 × Sg × Lg)} {v1 : Int64} {v3 : Int32} {sg : Sg} {lg : Lg} {y : Int64 × Sg × Lg} (hr77 : ∀ z, r77 z = some y → K z.2.2.1 → K y.2.1) (h : fX12_pack_77 r77 v1 v3 sg lg = some y) (hk : K sg) : K y.2.1 := by
  unfold fX12_pack_77 at h
  rcases p_ite h with h | h
  · skip
    cases h
    exact hk
  · skip
    exact kLX12_pack_89 hK hr77 _ h hk
theorem kLX12_pack_77 {K : Sg → Prop} (hK : KWm K) {y : Int64 × Sg × Lg} : ∀ z, LX12_pack_77 z = some y → K z.2.2.1 → K y.2.1 := by
  intro z h
  unfold LX12_pack_77 at h
  exact loop_ind (fun rec z => fX12_pack_77 rec z.1 z.2.1 z.2.2.1 z.2.2.2) (y := y) (P := fun z => K z.2.2.1 → K y.2.1) (fun rec hrec z h hk => kfX12_pack_77 hK hrec h hk) z h
theorem kfX12_pack_52 {K : Sg → Prop} (hK : KWm K) {r2 : (Int32 × Sg × Lg) → Option (Int64 × Sg × Lg)} {r10 : (Int32 × Int32 × Sg × Lg) → Option (Int64 × Sg × Lg)} {v1 : Int32} {v2 : Int32} {w0 : Int32} {w1 : Int32} {sg : Sg} {lg : Lg} {y : Int64 × Sg × Lg} (hr2 : ∀ z, r2 z = some y → K z.2.1 → K y.2.1) (hr10 : ∀ z, r10 z = some y → K z.2.2.1 → K y.2.1) (h : fX12_pack_52 r2 r10 v1 v2 w0 w1 sg lg = some y) (hk : K sg) : K y.2.1 := by
  unfold fX12_pack_52 at h
  replace h := p_gin h
  obtain ⟨sg2, esg2, h⟩ := p_lt h
  have qsg2 : K sg2 := by rw [esg2]; exact hK _ _ _ _ rfl hk
  obtain ⟨x3, ex3, h⟩ := p_lt h
  exact hr10 _ h qsg2
theorem kfX12_pack_51 {K : Sg → Prop} (hK : KWm K) {r2 : (Int32 × Sg × Lg) → Option (Int64 × Sg × Lg)} {r10 : (Int32 × Int32 × Sg × Lg) → Option (Int64 × Sg × Lg)} {v1 : Int32} {v2 : Int32} {w0 : Int32} {sg : Sg} {lg : Lg} {y : Int64 × Sg × Lg} (hr2 : ∀ z, r2 z = some y → K z.2.1 → K y.2.1) (hr10 : ∀ z, r10 z = some y → K z.2.2.1 → K y.2.1) (h : fX12_pack_51 r2 r10 v1 v2 w0 sg lg = some y) (hk : K sg) : K y.2.1 := by
  unfold fX12_pack_51 at h
  exact kfX12_pack_52 hK hr2 hr10 h hk
theorem kfX12_pack_10 {K : Sg → Prop} (hK : KWm K) {r2 : (Int32 × Sg × Lg) → Option (Int64 × Sg × Lg)} {r10 : (Int32 × Int32 × Sg × Lg) → Option (Int64 × Sg × Lg)} {v1 : Int32} {v2 : Int32} {sg : Sg} {lg : Lg} {y : Int64 × Sg × Lg} (hr2 : ∀ z, r2 z = some y → K z.2.1 → K y.2.1) (hr10 : ∀ z, r10 z = some y → K z.2.2.1 → K y.2.1) (h : fX12_pack_10 r2 r10 v1 v2 sg lg = some y) (hk : K sg) : K y.2.1 := by
  unfold fX12_pack_10 at h
  rcases p_ite h with h | h
  · skip
    obtain ⟨x2, ex2, h⟩ := p_lt h
    exact hr2 _ h hk
  · skip
    obtain ⟨y3, sg4, lg5, clg5, h⟩ := p_bnd3 h
    have qsg4 : K sg4 := kfX12_counts hK  clg5 hk
    rcases p_ite h with h | h
    · skip
      exact kfX12_pack_51 hK hr2 hr10 h qsg4
    · skip
      obtain ⟨y8, sg9, lg10, clg10, h⟩ := p_bnd3 h
      have qsg9 : K sg9 := kfX12_counts hK  clg10 qsg4
      rcases p_ite h with h | h
      · skip
        exact kfX12_pack_51 hK hr2 hr10 h qsg9
      · skip
        obtain ⟨y13, sg14, lg15, clg15, h⟩ := p_bnd3 h
        have qsg14 : K sg14 := kfX12_peckOf hK  clg15 qsg9
        exact kfX12_pack_52 hK hr2 hr10 h qsg14
theorem kLX12_pack_10 {K : Sg → Prop} (hK : KWm K) {r2 : (Int32 × Sg × Lg) → Option (Int64 × Sg × Lg)} {y : Int64 × Sg × Lg} (hr2 : ∀ z, r2 z = some y → K z.2.1 → K y.2.1) : ∀ z, LX12_pack_10 r2 z = some y → K z.2.2.1 → K y.2.1 := by
  intro z h
  unfold LX12_pack_10 at h
  exact loop_ind (fun rec z => fX12_pack_10 r2 rec z.1 z.2.1 z.2.2.1 z.2.2.2) (y := y) (P := fun z => K z.2.2.1 → K y.2.1) (fun rec hrec z h hk => kfX12_pack_10 hK hr2 hrec h hk) z h
theorem kfX12_pack_2 {K : Sg → Prop} (hK : KWm K) {r2 : (Int32 × Sg × Lg) → Option (Int64 × Sg × Lg)} {v1 : Int32} {sg : Sg} {lg : Lg} {y : Int64 × Sg × Lg} (hr2 : ∀ z, r2 z = some y → K z.2.1 → K y.2.1) (h : fX12_pack_2 r2 v1 sg lg = some y) (hk : K sg) : K y.2.1 := by
  unfold fX12_pack_2 at h
  rcases p_ite h with h | h
  · skip
    obtain ⟨sg2, esg2, h⟩ := p_lt h
    have qsg2 : K sg2 := by rw [esg2]; exact hK _ _ _ _ rfl hk
    obtain ⟨y3, sg4, lg5, clg5, h⟩ := p_bnd3 h
    have qsg4 : K sg4 := kfX12_ringNext hK  clg5 qsg2
    exact kLX12_pack_77 hK  _ h qsg4
  · skip
    exact kLX12_pack_10 hK hr2 _ h hk
theorem kLX12_pack_2 {K : Sg → Prop} (hK : KWm K) {y : Int64 × Sg × Lg} : ∀ z, LX12_pack_2 z = some y → K z.2.1 → K y.2.1 := by
  intro z h
  unfold LX12_pack_2 at h
  exact loop_ind (fun rec z => fX12_pack_2 rec z.1 z.2.1 z.2.2) (y := y) (P := fun z => K z.2.1 → K y.2.1) (fun rec hrec z h hk => kfX12_pack_2 hK hrec h hk) z h
theorem kfX12_pack {K : Sg → Prop} (hK : KWm K) {sg : Sg} {lg : Lg} {y : Int64 × Sg × Lg} (h : fX12_pack sg lg = some y) (hk : K sg) : K y.2.1 := by
  unfold fX12_pack at h
  exact kLX12_pack_2 hK  _ h hk
/-! the hand is kept -/
def KHd (sx sm : Sg) (lm : Lg) : Prop := JC sx ∧ NSH sm ∧ HD sx sm
theorem KHdF : KF KHd := fun _ _ _ _ _ hI hJ st same s3 s0 nn => ⟨JC_flock hI hJ.1 st same, nn hJ.2.1, hd_cg hJ.2.2 (same 5 (by decide) (by decide) (by omega) (by omega)) (same 31 (by decide) (by decide) (by omega) (by omega)) (s0 4 (by decide)) (s3 3 (by decide) (by decide) (by decide))⟩
theorem khd0 : KHd sgC0 sgM0 lg0 := by
  refine ⟨kj0.1, kj0.2, ⟨by decide, fun i hi => ?_⟩, fun i j _ hj => ?_⟩
  · have e : (sgC0 5 0).toInt = 0 := by decide
    omega
  · have e : (sgM0 0 4).toInt = 0 := by decide
    omega
def Hx (sx sx' : Sg) : Prop := sx' 5 = sx 5 ∧ sx' 31 = sx 31
def Hm (sm sm' : Sg) : Prop := sm' 0 4 = sm 0 4 ∧ sm' 3 = sm 3
theorem hd_fr {sx sm sx' sm' : Sg} (h : HD sx sm) (a : Hx sx sx') (b : Hm sm sm') : HD sx' sm' := hd_cg h a.1 a.2 b.1 b.2
theorem hx_l {M : List Nat} {sx sx' : Sg} {r : Int64} (h : PLC M sx (r, sx')) (h5 : 5 ∉ M) (h31 : 31 ∉ M) : Hx sx sx' := ⟨h.2 5 h5, h.2 31 h31⟩
theorem hx_u {sx sx' : Sg} {r : Int64} (h : PUlC sx (r, sx')) : Hx sx sx' := by
  have e : sx' = sx := h
  rw [e]
  exact ⟨rfl, rfl⟩
theorem hm_l {M : List Nat} {sm sm' : Sg} {lm lm' : Lg} {r : Int64} (h : PLM M sm lm (r, sm', lm')) (h0 : 0 ∉ M) (h3 : 3 ∉ M) : Hm sm sm' := ⟨congrFun (h.2.1 0 h0) 4, h.2.1 3 h3⟩
theorem hm_u {sm sm' : Sg} {lm lm' : Lg} {r : Int64} (h : PUlM sm lm (r, sm', lm')) : Hm sm sm' := by
  have e : (sm', lm') = (sm, lm) := h
  cases e
  exact ⟨rfl, rfl⟩
theorem kwm_h {sm : Sg} : KWm (Hm sm) := by
  intro sg k j v w h
  unfold wfm at w
  have w' : ¬ (k = 3 ∨ (k = 0 ∧ j = 4)) := fun z => by
    rcases z with z | ⟨z1, z2⟩
    · rw [z] at w; cases w
    · rw [z1, z2] at w; cases w
  refine ⟨?_, ?_⟩
  · rw [up2_o (by omega)]; exact h.1
  · rw [up2_n (by omega)]; exact h.2
/-! groups: who is reached, stage by stage -/
def WA (E : Nat → Nat → Prop) : Nat → Nat → Nat → Prop
  | 0, a, b => E a b
  | m + 1, a, b => WA E m a b ∨ (WA E m a m ∧ WA E m m b)
theorem WA_rf {E : Nat → Nat → Prop} {a : Nat} (h : E a a) : ∀ m, WA E m a a
  | 0 => h
  | m + 1 => Or.inl (WA_rf h m)
theorem WA_tr {E : Nat → Nat → Prop} : ∀ m k a b, k < m → WA E m a k → WA E m k b → WA E m a b
  | 0, k, _, _, h, _, _ => absurd h (Nat.not_lt_zero _)
  | m + 1, k, a, b, h, h1, h2 => by
    by_cases c : k < m
    · rcases h1 with p | ⟨p1, p2⟩
      · rcases h2 with q | ⟨q1, q2⟩
        · exact Or.inl (WA_tr m k a b c p q)
        · exact Or.inr ⟨WA_tr m k a m c p q1, q2⟩
      · rcases h2 with q | ⟨q1, q2⟩
        · exact Or.inr ⟨p1, WA_tr m k m b c p2 q⟩
        · exact Or.inr ⟨p1, q2⟩
    · have e : k = m := by omega
      subst e
      have p : WA E k a k := by
        rcases h1 with p | ⟨p1, -⟩
        · exact p
        · exact p1
      have q : WA E k k b := by
        rcases h2 with q | ⟨-, q2⟩
        · exact q
        · exact q2
      exact Or.inr ⟨p, q⟩
theorem WA_in {E : Nat → Nat → Prop} {C : Nat → Prop} (h : ∀ a b, E a b → a = b ∨ (C a ∧ C b)) : ∀ m a b, WA E m a b → a = b ∨ (C a ∧ C b)
  | 0, a, b, w => h a b w
  | m + 1, a, b, w => by
    rcases w with w | ⟨w1, w2⟩
    · exact WA_in h m a b w
    · rcases WA_in h m a m w1 with p | p
      · rw [p]; exact WA_in h m m b w2
      · rcases WA_in h m m b w2 with q | q
        · rw [← q]; exact Or.inr p
        · exact Or.inr ⟨p.1, q.2⟩
theorem WA_cg {E F : Nat → Nat → Prop} (h : ∀ a b, E a b ↔ F a b) : ∀ m a b, WA E m a b ↔ WA F m a b
  | 0, a, b => h a b
  | m + 1, a, b => by
    show (WA E m a b ∨ (WA E m a m ∧ WA E m m b)) ↔ (WA F m a b ∨ (WA F m a m ∧ WA F m m b))
    rw [WA_cg h m a b, WA_cg h m a m, WA_cg h m m b]
/-- by hens and by slots -/
theorem WA_rk {s : Sg} {Eh Es : Nat → Nat → Prop} (hin : ∀ a b, Eh a b → a = b ∨ (cnb s a = true ∧ cnb s b = true)) (he : ∀ a b, a < 12 → b < 12 → cnb s a = true → cnb s b = true → (Es (rk s a) (rk s b) ↔ Eh a b)) : ∀ m, m ≤ 12 → ∀ a b, a < 12 → b < 12 → cnb s a = true → cnb s b = true → (WA Es (rk s m) (rk s a) (rk s b) ↔ WA Eh m a b)
  | 0, _, a, b, ha, hb, ca, cb' => by
    have e : rk s 0 = 0 := rfl
    rw [e]; exact he a b ha hb ca cb'
  | m + 1, hm, a, b, ha, hb, ca, cb' => by
    have ih := WA_rk hin he m (by omega)
    by_cases c : cnb s m = true
    · rw [rk_s c]
      show (WA Es (rk s m) (rk s a) (rk s b) ∨ (WA Es (rk s m) (rk s a) (rk s m) ∧ WA Es (rk s m) (rk s m) (rk s b))) ↔ (WA Eh m a b ∨ (WA Eh m a m ∧ WA Eh m m b))
      rw [ih a b ha hb ca cb', ih a m ha (by omega) ca c, ih m b (by omega) hb c cb']
    · have cf : cnb s m = false := by
        cases h : cnb s m
        · rfl
        · exact absurd h c
      rw [rk_n cf, ih a b ha hb ca cb']
      constructor
      · exact Or.inl
      · rintro (w | ⟨w1, w2⟩)
        · exact w
        · rcases WA_in hin m a m w1 with p | p
          · rw [← p] at c; exact absurd ca c
          · exact absurd p.2 c
/-! the groups, one after another -/
section
variable (C : Nat → Prop) (R : Nat → Nat → Prop)
def Nx (g : Nat → Int) (h : Nat) : Prop := C h ∧ g h < 0 ∧ ∀ o, C o → g o < 0 → R o h → R h o
def Pk (g : Nat → Int) (h : Nat) : Prop := Nx C R g h ∧ ∀ h', h' < h → ¬ Nx C R g h'
noncomputable def gup (g : Nat → Int) (h : Nat) (n : Nat) : Nat → Int := fun o => @ite _ (C o ∧ R o h ∧ R h o) (Classical.propDecidable _) (n : Int) (g o)
def GSt : Nat → (Nat → Int) → Prop
  | 0, g => g = fun _ => -1
  | n + 1, g' => ∃ g h, GSt n g ∧ Pk C R g h ∧ g' = gup C R g h n
def GFin (n : Nat) (g : Nat → Int) : Prop := GSt C R n g ∧ ∀ h, ¬ Nx C R g h
end
section
variable {C : Nat → Prop} {R : Nat → Nat → Prop}
theorem Pk_un {g : Nat → Int} {h h' : Nat} (a : Pk C R g h) (b : Pk C R g h') : h = h' := by
  rcases Nat.lt_trichotomy h h' with z | z | z
  · exact absurd a.1 (b.2 h z)
  · exact z
  · exact absurd b.1 (a.2 h' z)
theorem Pk_of {g : Nat → Int} : ∀ h, Nx C R g h → ∃ h', Pk C R g h' := by
  intro h
  induction h using Nat.strongRecOn with
  | _ h ih =>
    intro a
    by_cases c : ∃ h', h' < h ∧ Nx C R g h'
    · obtain ⟨h', c1, c2⟩ := c
      exact ih h' c1 c2
    · exact ⟨h, a, fun h' z y => c ⟨h', z, y⟩⟩
theorem GSt_un : ∀ n g g', GSt C R n g → GSt C R n g' → g = g'
  | 0, g, g', a, b => by rw [show g = _ from a, show g' = _ from b]
  | n + 1, g, g', a, b => by
    obtain ⟨g1, h1, a1, a2, a3⟩ := a
    obtain ⟨g2, h2, b1, b2, b3⟩ := b
    have e := GSt_un n g1 g2 a1 b1
    subst e
    have e2 := Pk_un a2 b2
    subst e2
    rw [a3, b3]
theorem GSt_pre {m : Nat} : ∀ n g', GSt C R n g' → m < n → ∃ g h, GSt C R m g ∧ Nx C R g h
  | 0, _, _, h => absurd h (Nat.not_lt_zero _)
  | n + 1, g', a, h => by
    obtain ⟨g1, h1, a1, a2, a3⟩ := a
    by_cases w : m = n
    · rw [w]; exact ⟨g1, h1, a1, a2.1⟩
    · exact GSt_pre n g1 a1 (by omega)
theorem GFin_un {n n' : Nat} {g g' : Nat → Int} (a : GFin C R n g) (b : GFin C R n' g') : n = n' ∧ g = g' := by
  have key : ∀ {n n' : Nat} {g g' : Nat → Int}, GFin C R n g → GFin C R n' g' → ¬ n < n' := by
    intro n n' g g' a b h
    obtain ⟨q, i, c, d⟩ := GSt_pre n' g' b.1 h
    have e := GSt_un n g q a.1 c
    subst e
    exact a.2 i d
  have e : n = n' := by
    have h1 := key a b
    have h2 := key b a
    omega
  subst e
  exact ⟨rfl, GSt_un n g g' a.1 b.1⟩
theorem gup_p {g : Nat → Int} {h n o : Nat} (a : C o ∧ R o h ∧ R h o) : gup C R g h n o = (n : Int) := if_pos a
theorem gup_n {g : Nat → Int} {h n o : Nat} (a : ¬ (C o ∧ R o h ∧ R h o)) : gup C R g h n o = g o := if_neg a
/-- who is not yet in a group is not one with somebody that is -/
theorem GSt_one (tr : ∀ a b c, C b → R a b → R b c → R a c) : ∀ n g, GSt C R n g → (∀ o, -1 ≤ g o ∧ g o < (n : Int)) ∧ ∀ o h, C o → C h → 0 ≤ g o → R o h → R h o → 0 ≤ g h
  | 0, g, a => by
    have e : g = fun _ => -1 := a
    rw [e]
    exact ⟨fun o => by show (-1 : Int) ≤ -1 ∧ (-1 : Int) < ((0 : Nat) : Int); omega, fun o h _ _ z _ _ => by replace z : (0 : Int) ≤ -1 := z; omega⟩
  | n + 1, g', a => by
    obtain ⟨g, h1, a1, a2, a3⟩ := a
    obtain ⟨i1, i2⟩ := GSt_one tr n g a1
    subst a3
    refine ⟨fun o => ?_, fun o h co ch z r1 r2 => ?_⟩
    · by_cases c : C o ∧ R o h1 ∧ R h1 o
      · rw [gup_p c]; omega
      · rw [gup_n c]; have := i1 o; omega
    · by_cases c : C h ∧ R h h1 ∧ R h1 h
      · rw [gup_p c]; omega
      · rw [gup_n c]
        by_cases d : C o ∧ R o h1 ∧ R h1 o
        · exact absurd ⟨ch, tr h o h1 co r2 d.2.1, tr h1 o h co d.2.2 r1⟩ c
        · rw [gup_n d] at z
          exact i2 o h co ch z r1 r2
end
/-! one that is reached by none but its own -/
noncomputable def cnp (p : Nat → Prop) : Nat → Nat
  | 0 => 0
  | n + 1 => cnp p n + @ite _ (p n) (Classical.propDecidable _) 1 0
theorem cnp_le {p q : Nat → Prop} : ∀ n, (∀ j, j < n → p j → q j) → cnp p n ≤ cnp q n
  | 0, _ => Nat.le_refl _
  | n + 1, h => by
    have ih := cnp_le n (fun j hj => h j (by omega))
    show cnp p n + @ite _ (p n) (Classical.propDecidable _) 1 0 ≤ cnp q n + @ite _ (q n) (Classical.propDecidable _) 1 0
    by_cases c : p n
    · rw [if_pos c, if_pos (h n (by omega) c)]; omega
    · rw [if_neg c]
      omega
theorem cnp_lt {p q : Nat → Prop} {i : Nat} (nq : ¬ p i) (yq : q i) : ∀ n, i < n → (∀ j, j < n → p j → q j) → cnp p n < cnp q n
  | 0, h, _ => absurd h (Nat.not_lt_zero _)
  | n + 1, h, hs => by
    show cnp p n + @ite _ (p n) (Classical.propDecidable _) 1 0 < cnp q n + @ite _ (q n) (Classical.propDecidable _) 1 0
    by_cases c : i = n
    · rw [← c, if_neg nq, if_pos yq]
      have := cnp_le (p := p) (q := q) i (fun j hj => hs j (by omega))
      omega
    · have ih := cnp_lt nq yq n (by omega) (fun j hj => hs j (by omega))
      by_cases d : p n
      · rw [if_pos d, if_pos (hs n (by omega) d)]; omega
      · rw [if_neg d]; omega
theorem cnp_0 {p : Nat → Prop} : ∀ n, cnp p n = 0 → ∀ j, j < n → ¬ p j
  | 0, _, j, hj => absurd hj (Nat.not_lt_zero _)
  | n + 1, h, j, hj => by
    have h' : cnp p n + @ite _ (p n) (Classical.propDecidable _) 1 0 = 0 := h
    by_cases c : j = n
    · intro z
      rw [c] at z
      rw [if_pos z] at h'
      omega
    · exact cnp_0 n (by omega) j (by omega)
theorem cnp_bd {p : Nat → Prop} : ∀ n, cnp p n ≤ n
  | 0 => Nat.le_refl _
  | n + 1 => by
    have := cnp_bd (p := p) n
    show cnp p n + @ite _ (p n) (Classical.propDecidable _) 1 0 ≤ n + 1
    split <;> omega
theorem nx_ex {C : Nat → Prop} {R : Nat → Nat → Prop} {g : Nat → Int} (c12 : ∀ h, C h → h < 12) (rf : ∀ h, R h h) (tr : ∀ a b c, C b → R a b → R b c → R a c) : ∀ (N h : Nat), cnp (fun o => C o ∧ g o < 0 ∧ R o h) 12 ≤ N → C h → g h < 0 → ∃ h', Nx C R g h' := by
  intro N
  induction N with
  | zero =>
    intro h hN hc hg
    exact absurd ⟨hc, hg, rf h⟩ (cnp_0 (p := fun o => C o ∧ g o < 0 ∧ R o h) 12 (by omega) h (c12 h hc))
  | succ N ih =>
    intro h hN hc hg
    by_cases c : ∃ o, C o ∧ g o < 0 ∧ R o h ∧ ¬ R h o
    · obtain ⟨o, o1, o2, o3, o4⟩ := c
      have lt := cnp_lt (p := fun x => C x ∧ g x < 0 ∧ R x o) (q := fun x => C x ∧ g x < 0 ∧ R x h) (i := h) (fun z => o4 z.2.2) ⟨hc, hg, rf h⟩ 12 (c12 h hc) (fun j _ z => ⟨z.1, z.2.1, tr j o h o1 z.2.2 o3⟩)
      exact ih o (by omega) o1 o2
    · exact ⟨h, hc, hg, fun o h1 h2 h3 => Classical.byContradiction fun z => c ⟨o, h1, h2, h3, z⟩⟩
/-! followPecks -/
def RB (t : Sg) (a b : Nat) : Prop := (t 36 a).toInt.toNat.testBit b = true
def ES (A : Sg) (a b : Nat) : Prop := a = b ∨ 0 < (A 23 (12 * a + b)).toInt
/-- the rows of bits -/
def R36 (A t : Sg) : Prop := (∀ c, c ≠ 36 → t c = A c) ∧ ∀ j, 0 ≤ (t 36 j).toInt ∧ (t 36 j).toInt ≤ 4095
theorem R36_up {A t : Sg} {i : Nat} {v : Int32} (h : R36 A t) (v0 : 0 ≤ v.toInt) (v1 : v.toInt ≤ 4095) : R36 A (up2 t 36 i v) := by
  refine ⟨fun c hc => by rw [up2_n hc]; exact h.1 c hc, fun j => ?_⟩
  by_cases w : j = i
  · rw [w, up2_e]; exact ⟨v0, v1⟩
  · rw [up2_o (Or.inr w)]; exact h.2 j
theorem RB_o {t : Sg} {i a b : Nat} {v : Int32} (h : a ≠ i) : RB (up2 t 36 i v) a b ↔ RB t a b := by
  unfold RB; rw [up2_o (Or.inr h)]
theorem RB_e {t : Sg} {i b : Nat} {v : Int32} : RB (up2 t 36 i v) i b ↔ v.toInt.toNat.testBit b = true := by
  unfold RB; rw [up2_e]
set_option maxHeartbeats 4000000 in
theorem fp_24 {A s0 : Sg} {v1 : Int32} {n : Nat} {P : Sg → Prop} {r2 : (Int32 × Sg) → Option Sg} (hn : (A 3 2).toInt = (n : Int)) (n12 : n ≤ 12) (h0 : R36 A s0) (a0 : 0 ≤ v1.toInt) (a1 : v1.toInt < (n : Int)) (hrow : ∀ b, RB s0 v1.toInt.toNat b ↔ b = v1.toInt.toNat)
    (hr : ∀ (x : Int32) (t : Sg), x.toInt = v1.toInt + 1 → R36 A t → (∀ a, a ≠ v1.toInt.toNat → t 36 a = s0 36 a) → (∀ b, b < n → (RB t v1.toInt.toNat b ↔ ES A v1.toInt.toNat b)) → Ok P (r2 (x, t))) : Ok P (LX3_followPecks_24 r2 (v1, (0 : Int32), s0)) := by
  have k0 : (0 : Int32).toInt = 0 := by decide
  have hc1 := cl_i a0
  unfold LX3_followPecks_24
  refine ok_loop (I := fun (q : Int32 × Int32 × Sg) => q.1 = v1 ∧ 0 ≤ q.2.1.toInt ∧ q.2.1.toInt ≤ (n : Int) ∧ R36 A q.2.2 ∧ (∀ a, a ≠ v1.toInt.toNat → q.2.2 36 a = s0 36 a) ∧ ∀ b, RB q.2.2 v1.toInt.toNat b ↔ (b = v1.toInt.toNat ∨ ((b : Int) < q.2.1.toInt ∧ 0 < (A 23 (12 * v1.toInt.toNat + b)).toInt))) (m := fun (q : Int32 × Int32 × Sg) => (13 - q.2.1.toInt).toNat) _ ?_ ?_ _ ?_
  · intro q hq
    have := hq.2.1
    show (13 - q.2.1.toInt).toNat < 10000
    omega
  · intro rec q hq hrec
    obtain ⟨q1, v2, t⟩ := q
    replace hq : q1 = v1 ∧ 0 ≤ v2.toInt ∧ v2.toInt ≤ (n : Int) ∧ R36 A t ∧ (∀ a, a ≠ v1.toInt.toNat → t 36 a = s0 36 a) ∧ ∀ b, RB t v1.toInt.toNat b ↔ (b = v1.toInt.toNat ∨ ((b : Int) < v2.toInt ∧ 0 < (A 23 (12 * v1.toInt.toNat + b)).toInt)) := hq
    obtain ⟨e1, b0, b1, ht, fo, hb⟩ := hq
    rw [e1]
    show Ok P (fX3_followPecks_24 r2 rec v1 v2 t)
    unfold fX3_followPecks_24
    rw [ht.1 3 (by decide)]
    have hc2 := cl_i b0
    have go : ∀ t' : Sg, v2.toInt < (n : Int) → R36 A t' → (∀ a, a ≠ v1.toInt.toNat → t' 36 a = s0 36 a) → (∀ b, RB t' v1.toInt.toNat b ↔ (b = v1.toInt.toNat ∨ ((b : Int) < v2.toInt + 1 ∧ 0 < (A 23 (12 * v1.toInt.toNat + b)).toInt))) → Ok P (fX3_followPecks_59 r2 rec v1 v2 t') := by
      intro t' g0 g1 g2 g3
      unfold fX3_followPecks_59
      refine ok_lt (fun x e => ?_)
      replace e : x.toInt = v2.toInt + 1 := by rw [e]; exact add_c 1 (by decide) (by omega) (by omega)
      refine hrec (v1, x, t') ⟨rfl, by show 0 ≤ x.toInt; omega, by show x.toInt ≤ (n : Int); omega, g1, g2, fun b => ?_⟩ (show (13 - x.toInt).toNat < (13 - v2.toInt).toNat by omega)
      show RB t' v1.toInt.toNat b ↔ (b = v1.toInt.toNat ∨ ((b : Int) < x.toInt ∧ _))
      rw [e]; exact g3 b
    refine ok_ite (fun c => ?_) (fun c => ?_)
    · replace c := i_le.mp c
      rw [hn] at c
      refine ok_lt (fun x e => ?_)
      replace e : x.toInt = v1.toInt + 1 := by rw [e]; exact add_c 1 (by decide) (by omega) (by omega)
      refine hr x t e ht fo (fun b hbn => ?_)
      rw [hb b]
      unfold ES
      constructor
      · rintro (z | ⟨-, z⟩)
        · exact Or.inl z.symm
        · exact Or.inr z
      · rintro (z | z)
        · exact Or.inl z.symm
        · exact Or.inr ⟨by omega, z⟩
    · replace c := i_nle.mp c
      rw [hn] at c
      refine bnd2_of (peckOf_c a0 (by omega) b0 (by omega)) ?_
      rw [ht.1 23 (by decide), show v1.toNatClampNeg = v1.toInt.toNat by omega, show v2.toNatClampNeg = v2.toInt.toNat by omega]
      refine ok_ite (fun d => ?_) (fun d => ?_)
      · replace d := i_le.mp d
        rw [k0] at d
        refine go t c ht fo (fun b => ?_)
        rw [hb b]
        constructor
        · rintro (z | ⟨z1, z2⟩)
          · exact Or.inl z
          · exact Or.inr ⟨by omega, z2⟩
        · rintro (z | ⟨z1, z2⟩)
          · exact Or.inl z
          · by_cases w : b = v2.toInt.toNat
            · rw [w] at z2; omega
            · exact Or.inr ⟨by omega, z2⟩
      · replace d := i_nle.mp d
        rw [k0] at d
        have r := ht.2 v1.toInt.toNat
        have tn := tset_n (set := t 36 v1.toInt.toNat) (h := v2) r.1 r.2 b0 (by omega)
        have ti := tset_i (set := t 36 v1.toInt.toNat) (h := v2) r.1 r.2 b0 (by omega)
        refine ok_gin (by omega) (by omega) ?_
        refine ok_lt (fun x8 e8 => ?_)
        rw [← e8] at tn ti
        refine ok_gin (by omega) (by omega) ?_
        refine ok_lt (fun s10 e10 => ?_)
        rw [e10]
        refine go _ c (R36_up ht ti.1 ti.2) (fun a ha => by rw [up2_o (Or.inr ha)]; exact fo a ha) (fun b => ?_)
        rw [RB_e, tn, tb_or, Bool.or_eq_true, decide_eq_true_eq]
        have hb' := hb b
        unfold RB at hb'
        rw [hb']
        constructor
        · rintro ((z | ⟨z1, z2⟩) | z)
          · exact Or.inl z
          · exact Or.inr ⟨by omega, z2⟩
          · exact Or.inr ⟨by omega, by rw [← z]; exact d⟩
        · rintro (z | ⟨z1, z2⟩)
          · exact Or.inl (Or.inl z)
          · by_cases w : v2.toInt.toNat = b
            · exact Or.inr w
            · exact Or.inl (Or.inr ⟨by omega, z2⟩)
  · refine ⟨rfl, by show 0 ≤ (0 : Int32).toInt; omega, by show (0 : Int32).toInt ≤ (n : Int); omega, h0, fun _ _ => rfl, fun b => ?_⟩
    show RB s0 v1.toInt.toNat b ↔ (b = v1.toInt.toNat ∨ ((b : Int) < (0 : Int32).toInt ∧ _))
    rw [hrow b]
    constructor
    · exact Or.inl
    · rintro (z | ⟨z, -⟩)
      · exact z
      · omega
set_option maxHeartbeats 4000000 in
theorem fp_86 {A s0 : Sg} {v1 : Int32} {n : Nat} {P : Sg → Prop} {r73 : (Int32 × Sg) → Option Sg} (hn : (A 3 2).toInt = (n : Int)) (n12 : n ≤ 12) (h0 : R36 A s0) (a0 : 0 ≤ v1.toInt) (a1 : v1.toInt < (n : Int)) (hrow : ∀ a b, a < n → b < n → (RB s0 a b ↔ WA (ES A) v1.toInt.toNat a b))
    (hr : ∀ (x : Int32) (t : Sg), x.toInt = v1.toInt + 1 → R36 A t → (∀ a b, a < n → b < n → (RB t a b ↔ WA (ES A) (v1.toInt.toNat + 1) a b)) → Ok P (r73 (x, t))) : Ok P (LX3_followPecks_86 r73 (v1, (0 : Int32), s0)) := by
  have k0 : (0 : Int32).toInt = 0 := by decide
  have hc1 := cl_i a0
  have mm : ∀ b, WA (ES A) (v1.toInt.toNat + 1) v1.toInt.toNat b ↔ WA (ES A) v1.toInt.toNat v1.toInt.toNat b := fun b => ⟨fun z => by
    rcases z with z | z
    · exact z
    · exact z.2, Or.inl⟩
  unfold LX3_followPecks_86
  refine ok_loop (I := fun (q : Int32 × Int32 × Sg) => q.1 = v1 ∧ 0 ≤ q.2.1.toInt ∧ q.2.1.toInt ≤ (n : Int) ∧ R36 A q.2.2 ∧ ∀ a b, a < n → b < n → (((a : Int) < q.2.1.toInt → (RB q.2.2 a b ↔ WA (ES A) (v1.toInt.toNat + 1) a b)) ∧ (q.2.1.toInt ≤ (a : Int) → (RB q.2.2 a b ↔ WA (ES A) v1.toInt.toNat a b)))) (m := fun (q : Int32 × Int32 × Sg) => (13 - q.2.1.toInt).toNat) _ ?_ ?_ _ ?_
  · intro q hq
    have := hq.2.1
    show (13 - q.2.1.toInt).toNat < 10000
    omega
  · intro rec q hq hrec
    obtain ⟨q1, v2, t⟩ := q
    replace hq : q1 = v1 ∧ 0 ≤ v2.toInt ∧ v2.toInt ≤ (n : Int) ∧ R36 A t ∧ ∀ a b, a < n → b < n → (((a : Int) < v2.toInt → (RB t a b ↔ WA (ES A) (v1.toInt.toNat + 1) a b)) ∧ (v2.toInt ≤ (a : Int) → (RB t a b ↔ WA (ES A) v1.toInt.toNat a b))) := hq
    obtain ⟨e1, b0, b1, ht, hb⟩ := hq
    rw [e1]
    show Ok P (fX3_followPecks_86 r73 rec v1 v2 t)
    unfold fX3_followPecks_86
    rw [ht.1 3 (by decide)]
    have hc2 := cl_i b0
    have go : ∀ t' : Sg, v2.toInt < (n : Int) → R36 A t' → (∀ a, a ≠ v2.toInt.toNat → t' 36 a = t 36 a) → (∀ b, b < n → (RB t' v2.toInt.toNat b ↔ WA (ES A) (v1.toInt.toNat + 1) v2.toInt.toNat b)) → Ok P (fX3_followPecks_125 r73 rec v1 v2 t') := by
      intro t' g0 g1 g2 g3
      unfold fX3_followPecks_125
      refine ok_lt (fun x e => ?_)
      replace e : x.toInt = v2.toInt + 1 := by rw [e]; exact add_c 1 (by decide) (by omega) (by omega)
      refine hrec (v1, x, t') ⟨rfl, by show 0 ≤ x.toInt; omega, by show x.toInt ≤ (n : Int); omega, g1, fun a b ha hb' => ?_⟩ (show (13 - x.toInt).toNat < (13 - v2.toInt).toNat by omega)
      show ((a : Int) < x.toInt → (RB t' a b ↔ _)) ∧ (x.toInt ≤ (a : Int) → (RB t' a b ↔ _))
      have old := hb a b ha hb'
      by_cases w : a = v2.toInt.toNat
      · refine ⟨fun _ => by rw [w]; exact g3 b hb', fun z => ?_⟩
        omega
      · have er : RB t' a b ↔ RB t a b := by unfold RB; rw [g2 a w]
        rw [er]
        exact ⟨fun z => old.1 (by omega), fun z => old.2 (by omega)⟩
    refine ok_ite (fun c => ?_) (fun c => ?_)
    · replace c := i_le.mp c
      rw [hn] at c
      refine ok_lt (fun x e => ?_)
      replace e : x.toInt = v1.toInt + 1 := by rw [e]; exact add_c 1 (by decide) (by omega) (by omega)
      exact hr x t e ht (fun a b ha hb' => (hb a b ha hb').1 (by omega))
    · replace c := i_nle.mp c
      rw [hn] at c
      have v2n : v2.toInt.toNat < n := by omega
      have v1n : v1.toInt.toNat < n := by omega
      have row2 : ∀ b, b < n → (RB t v2.toInt.toNat b ↔ WA (ES A) v1.toInt.toNat v2.toInt.toNat b) := fun b hb' => (hb _ b v2n hb').2 (by omega)
      have row1 : ∀ b, b < n → (RB t v1.toInt.toNat b ↔ WA (ES A) v1.toInt.toNat v1.toInt.toNat b) := fun b hb' => by
        have := hb _ b v1n hb'
        by_cases w : ((v1.toInt.toNat : Nat) : Int) < v2.toInt
        · rw [this.1 w]; exact mm b
        · exact this.2 (by omega)
      have r2 := ht.2 v2.toInt.toNat
      have r1 := ht.2 v1.toInt.toNat
      refine ok_gin (by omega) (by omega) ?_
      rw [show v2.toNatClampNeg = v2.toInt.toNat by omega, show v1.toNatClampNeg = v1.toInt.toNat by omega]
      refine bnd2_of isIn_is ?_
      have bi := bit_n (a := t 36 v2.toInt.toNat) (v := v1) r2.1 a0 (by omega)
      by_cases f : ((t 36 v2.toInt.toNat >>> (v1 &&& 31)) &&& (1 : Int32)) = (1 : Int32)
      · rw [if_pos f, ite1]
        have am := (row2 _ v1n).mp (bi.mp f)
        have on := or_n r2.1 r2.2 r1.1 r1.2
        refine ok_gin (by omega) (by omega) ?_
        refine ok_gin (by omega) (by omega) ?_
        refine ok_lt (fun x11 e11 => ?_)
        rw [← e11] at on
        refine ok_gin (by omega) (by omega) ?_
        refine ok_lt (fun s13 e13 => ?_)
        rw [e13]
        refine go _ c (R36_up ht on.2.1 on.2.2) (fun a ha => by rw [up2_o (Or.inr ha)]) (fun b hb' => ?_)
        rw [RB_e, on.1, Nat.testBit_or, Bool.or_eq_true]
        have x1 := row1 b hb'
        have x2 := row2 b hb'
        unfold RB at x1 x2
        rw [x1, x2]
        constructor
        · rintro (z | z)
          · exact Or.inl z
          · exact Or.inr ⟨am, z⟩
        · rintro (z | ⟨-, z⟩)
          · exact Or.inl z
          · exact Or.inr z
      · rw [if_neg f, ite0]
        have am : ¬ WA (ES A) v1.toInt.toNat v2.toInt.toNat v1.toInt.toNat := fun z => f (bi.mpr ((row2 _ v1n).mpr z))
        refine go t c ht (fun _ _ => rfl) (fun b hb' => ?_)
        rw [row2 b hb']
        constructor
        · exact Or.inl
        · rintro (z | ⟨z, -⟩)
          · exact z
          · exact absurd z am
  · refine ⟨rfl, by show 0 ≤ (0 : Int32).toInt; omega, by show (0 : Int32).toInt ≤ (n : Int); omega, h0, fun a b ha hb => ⟨fun z => ?_, fun _ => hrow a b ha hb⟩⟩
    replace z : (a : Int) < (0 : Int32).toInt := z
    omega
set_option maxHeartbeats 4000000 in
theorem c_follow {A : Sg} {n : Nat} (hI : IC0 A) (hn : (A 3 2).toInt = (n : Int)) : Ok (fun t => R36 A t ∧ ∀ a b, a < n → b < n → (RB t a b ↔ WA (ES A) n a b)) (fX3_followPecks A) := by
  have k0 : (0 : Int32).toInt = 0 := by decide
  have n12 : n ≤ 12 := by have := rdC3_2 hI; omega
  have second : ∀ s : Sg, R36 A s → (∀ a b, a < n → b < n → (RB s a b ↔ ES A a b)) → Ok (fun t => R36 A t ∧ ∀ a b, a < n → b < n → (RB t a b ↔ WA (ES A) n a b)) (LX3_followPecks_73 ((0 : Int32), s)) := by
    intro s hs hb
    unfold LX3_followPecks_73
    refine ok_loop (I := fun (q : Int32 × Sg) => 0 ≤ q.1.toInt ∧ q.1.toInt ≤ (n : Int) ∧ R36 A q.2 ∧ ∀ a b, a < n → b < n → (RB q.2 a b ↔ WA (ES A) q.1.toInt.toNat a b)) (m := fun (q : Int32 × Sg) => (13 - q.1.toInt).toNat) _ ?_ ?_ _ ?_
    · intro q hq
      have := hq.1
      show (13 - q.1.toInt).toNat < 10000
      omega
    · intro rec q hq hrec
      obtain ⟨v1, t⟩ := q
      replace hq : 0 ≤ v1.toInt ∧ v1.toInt ≤ (n : Int) ∧ R36 A t ∧ ∀ a b, a < n → b < n → (RB t a b ↔ WA (ES A) v1.toInt.toNat a b) := hq
      obtain ⟨b0, b1, ht, hb⟩ := hq
      show Ok _ (fX3_followPecks_73 rec v1 t)
      unfold fX3_followPecks_73
      rw [ht.1 3 (by decide)]
      refine ok_ite (fun c => ?_) (fun c => ?_)
      · replace c := i_le.mp c
        rw [hn] at c
        refine ok_some ⟨ht, fun a b ha hb' => ?_⟩
        rw [hb a b ha hb', show v1.toInt.toNat = n by omega]
      · replace c := i_nle.mp c
        rw [hn] at c
        refine fp_86 hn n12 ht b0 c hb (fun x t' ex ht' hb' => ?_)
        refine hrec (x, t') ⟨by show 0 ≤ x.toInt; omega, by show x.toInt ≤ (n : Int); omega, ht', fun a b ha hbn => ?_⟩ (show (13 - x.toInt).toNat < (13 - v1.toInt).toNat by omega)
        show RB t' a b ↔ WA (ES A) x.toInt.toNat a b
        rw [show x.toInt.toNat = v1.toInt.toNat + 1 by omega]
        exact hb' a b ha hbn
    · refine ⟨by show 0 ≤ (0 : Int32).toInt; omega, by show (0 : Int32).toInt ≤ (n : Int); omega, hs, fun a b ha hbn => ?_⟩
      show RB s a b ↔ WA (ES A) (0 : Int32).toInt.toNat a b
      rw [k0]
      exact hb a b ha hbn
  unfold fX3_followPecks LX3_followPecks_2
  refine ok_loop (I := fun (q : Int32 × Sg) => 0 ≤ q.1.toInt ∧ q.1.toInt ≤ (n : Int) ∧ R36 A q.2 ∧ ∀ a b : Nat, (a : Int) < q.1.toInt → b < n → (RB q.2 a b ↔ ES A a b)) (m := fun (q : Int32 × Sg) => (13 - q.1.toInt).toNat) _ ?_ ?_ _ ?_
  · intro q hq
    have := hq.1
    show (13 - q.1.toInt).toNat < 10000
    omega
  · intro rec q hq hrec
    obtain ⟨v1, t⟩ := q
    replace hq : 0 ≤ v1.toInt ∧ v1.toInt ≤ (n : Int) ∧ R36 A t ∧ ∀ a b : Nat, (a : Int) < v1.toInt → b < n → (RB t a b ↔ ES A a b) := hq
    obtain ⟨b0, b1, ht, hb⟩ := hq
    show Ok _ (fX3_followPecks_2 rec v1 t)
    unfold fX3_followPecks_2
    rw [ht.1 3 (by decide)]
    have hc1 := cl_i b0
    refine ok_ite (fun c => ?_) (fun c => ?_)
    · replace c := i_le.mp c
      rw [hn] at c
      exact second t ht (fun a b ha hb' => hb a b (by omega) hb')
    · replace c := i_nle.mp c
      rw [hn] at c
      refine ok_lt (fun x2 e2 => ?_)
      have sh := shl_is (v := v1) b0 (by omega)
      have sh2 := shl_i (v := v1) 11 2048 (by decide) (by decide) b0 (by omega)
      rw [← e2] at sh sh2
      refine ok_gin (by omega) (by omega) ?_
      refine ok_lt (fun s4 e4 => ?_)
      rw [show v1.toNatClampNeg = v1.toInt.toNat by omega] at e4
      refine fp_24 hn n12 (by rw [e4]; exact R36_up ht (by omega) (by omega)) b0 c (fun b => ?_) (fun x t' ex ht' fo hb' => ?_)
      · rw [e4, RB_e, show x2.toInt.toNat = 2 ^ v1.toInt.toNat by omega, Nat.testBit_two_pow, decide_eq_true_eq]
        exact eq_comm
      · refine hrec (x, t') ⟨by show 0 ≤ x.toInt; omega, by show x.toInt ≤ (n : Int); omega, ht', fun a b ha hbn => ?_⟩ (show (13 - x.toInt).toNat < (13 - v1.toInt).toNat by omega)
        replace ha : (a : Int) < x.toInt := ha
        show RB t' a b ↔ ES A a b
        by_cases w : a = v1.toInt.toNat
        · rw [w]; exact hb' b hbn
        · have er : RB t' a b ↔ RB t a b := by
            unfold RB
            rw [fo a w, e4, up2_o (Or.inr w)]
          rw [er]
          exact hb a b (by omega) hbn
  · refine ⟨by show 0 ≤ (0 : Int32).toInt; omega, by show (0 : Int32).toInt ≤ (n : Int); omega, ⟨fun _ _ => rfl, fun j => rdC36 hI⟩, fun a b ha _ => ?_⟩
    replace ha : (a : Int) < (0 : Int32).toInt := ha
    omega
/-! comersTo, nextGroup -/
set_option maxHeartbeats 4000000 in
theorem c_comers {t : Sg} {v1 : Int32} {n : Nat} (hn : (t 3 2).toInt = (n : Int)) (n12 : n ≤ 12) (r36 : ∀ j, 0 ≤ (t 36 j).toInt ∧ (t 36 j).toInt ≤ 4095) (a0 : 0 ≤ v1.toInt) (a1 : v1.toInt < (n : Int)) : Ok (fun q => q.2 = t ∧ 0 ≤ q.1.toInt ∧ q.1.toInt ≤ 4095 ∧ ∀ j, q.1.toInt.toNat.testBit j = true ↔ (j < n ∧ RB t j v1.toInt.toNat)) (fX3_comersTo v1 t) := by
  have k0 : (0 : Int32).toInt = 0 := by decide
  unfold fX3_comersTo LX3_comersTo_4
  refine ok_loop (I := fun (q : Int32 × Int32 × Int32 × Sg) => q.1 = v1 ∧ 0 ≤ q.2.1.toInt ∧ q.2.1.toInt ≤ 4095 ∧ 0 ≤ q.2.2.1.toInt ∧ q.2.2.1.toInt ≤ (n : Int) ∧ q.2.2.2 = t ∧ ∀ j : Nat, q.2.1.toInt.toNat.testBit j = true ↔ ((j : Int) < q.2.2.1.toInt ∧ RB t j v1.toInt.toNat)) (m := fun (q : Int32 × Int32 × Int32 × Sg) => (13 - q.2.2.1.toInt).toNat) _ ?_ ?_ _ ?_
  · intro q hq
    have := hq.2.2.2.1
    show (13 - q.2.2.1.toInt).toNat < 10000
    omega
  · intro rec q hq hrec
    obtain ⟨q1, v2, v3, t'⟩ := q
    replace hq : q1 = v1 ∧ 0 ≤ v2.toInt ∧ v2.toInt ≤ 4095 ∧ 0 ≤ v3.toInt ∧ v3.toInt ≤ (n : Int) ∧ t' = t ∧ ∀ j : Nat, v2.toInt.toNat.testBit j = true ↔ ((j : Int) < v3.toInt ∧ RB t j v1.toInt.toNat) := hq
    obtain ⟨e1, o0, o1, b0, b1, e2, hb⟩ := hq
    rw [e1, e2]
    show Ok _ (fX3_comersTo_4 rec v1 v2 v3 t)
    unfold fX3_comersTo_4
    have hc3 := cl_i b0
    have go : ∀ w : Int32, v3.toInt < (n : Int) → 0 ≤ w.toInt → w.toInt ≤ 4095 → (∀ j : Nat, w.toInt.toNat.testBit j = true ↔ ((j : Int) < v3.toInt + 1 ∧ RB t j v1.toInt.toNat)) → Ok (fun q => q.2 = t ∧ 0 ≤ q.1.toInt ∧ q.1.toInt ≤ 4095 ∧ ∀ j, q.1.toInt.toNat.testBit j = true ↔ (j < n ∧ RB t j v1.toInt.toNat)) (fX3_comersTo_34 rec v1 w v3 t) := by
      intro w g0 g1 g2 g3
      unfold fX3_comersTo_34
      refine ok_lt (fun x e => ?_)
      replace e : x.toInt = v3.toInt + 1 := by rw [e]; exact add_c 1 (by decide) (by omega) (by omega)
      refine hrec (v1, w, x, t) ⟨rfl, g1, g2, by show 0 ≤ x.toInt; omega, by show x.toInt ≤ (n : Int); omega, rfl, fun j => ?_⟩ (show (13 - x.toInt).toNat < (13 - v3.toInt).toNat by omega)
      show w.toInt.toNat.testBit j = true ↔ ((j : Int) < x.toInt ∧ RB t j v1.toInt.toNat)
      rw [e]; exact g3 j
    refine ok_ite (fun c => ?_) (fun c => ?_)
    · replace c := i_le.mp c
      rw [hn] at c
      refine ok_some ⟨rfl, o0, o1, fun j => ?_⟩
      show v2.toInt.toNat.testBit j = true ↔ _
      rw [hb j]
      constructor
      · rintro ⟨z1, z2⟩; exact ⟨by omega, z2⟩
      · rintro ⟨z1, z2⟩; exact ⟨by omega, z2⟩
    · replace c := i_nle.mp c
      rw [hn] at c
      have r3 := r36 v3.toInt.toNat
      refine ok_gin (by omega) (by omega) ?_
      rw [show v3.toNatClampNeg = v3.toInt.toNat by omega]
      refine bnd2_of isIn_is ?_
      have bi := bit_n (a := t 36 v3.toInt.toNat) (v := v1) r3.1 a0 (by omega)
      by_cases f : ((t 36 v3.toInt.toNat >>> (v1 &&& 31)) &&& (1 : Int32)) = (1 : Int32)
      · rw [if_pos f, ite1]
        have rb : RB t v3.toInt.toNat v1.toInt.toNat := bi.mp f
        have tn := tset_n (set := v2) (h := v3) o0 o1 b0 (by omega)
        have ti := tset_i (set := v2) (h := v3) o0 o1 b0 (by omega)
        refine ok_lt (fun x8 e8 => ?_)
        rw [← e8] at tn ti
        refine go x8 c ti.1 ti.2 (fun j => ?_)
        rw [tn, tb_or, Bool.or_eq_true, decide_eq_true_eq, hb j]
        constructor
        · rintro (⟨z1, z2⟩ | z)
          · exact ⟨by omega, z2⟩
          · exact ⟨by omega, by rw [← z]; exact rb⟩
        · rintro ⟨z1, z2⟩
          by_cases w : v3.toInt.toNat = j
          · exact Or.inr w
          · exact Or.inl ⟨by omega, z2⟩
      · rw [if_neg f, ite0]
        have rb : ¬ RB t v3.toInt.toNat v1.toInt.toNat := fun z => f (bi.mpr z)
        refine go v2 c o0 o1 (fun j => ?_)
        rw [hb j]
        constructor
        · rintro ⟨z1, z2⟩; exact ⟨by omega, z2⟩
        · rintro ⟨z1, z2⟩
          by_cases w : j = v3.toInt.toNat
          · rw [w] at z2; exact absurd z2 rb
          · exact ⟨by omega, z2⟩
  · refine ⟨rfl, by show 0 ≤ (0 : Int32).toInt; omega, by show (0 : Int32).toInt ≤ 4095; omega, by show 0 ≤ (0 : Int32).toInt; omega, by show (0 : Int32).toInt ≤ (n : Int); omega, rfl, fun j => ?_⟩
    show (0 : Int32).toInt.toNat.testBit j = true ↔ ((j : Int) < (0 : Int32).toInt ∧ _)
    rw [k0]
    constructor
    · intro z
      rw [show (0 : Int).toNat = 0 from rfl, Nat.zero_testBit] at z
      cases z
    · rintro ⟨z, -⟩
      omega
/-- the next group, by slots -/
def NxS (t : Sg) (n L v : Nat) : Prop := L.testBit v = true ∧ ∀ o, o < n → L.testBit o = true → RB t o v → RB t v o
def NXP (t : Sg) (v1 : Int32) (n : Nat) (q : Int32 × Sg) : Prop := q.2 = t ∧ 0 ≤ q.1.toInt ∧ q.1.toInt ≤ 4095 ∧ ((∃ v, v < n ∧ NxS t n v1.toInt.toNat v ∧ (∀ v', v' < v → ¬ NxS t n v1.toInt.toNat v') ∧ ∀ j, q.1.toInt.toNat.testBit j = true ↔ (j < n ∧ RB t j v ∧ v1.toInt.toNat.testBit j = true)) ∨ ∀ v, v < n → ¬ NxS t n v1.toInt.toNat v)
theorem zero_tb {y : Int32} (y0 : 0 ≤ y.toInt) : y = 0 ↔ ∀ j, y.toInt.toNat.testBit j = false := by
  have k0 : (0 : Int32).toInt = 0 := by decide
  constructor
  · intro z j
    rw [z, k0]
    exact Nat.zero_testBit j
  · intro z
    have : y.toInt.toNat = 0 := Nat.eq_of_testBit_eq (fun j => by rw [z j, Nat.zero_testBit])
    exact Int32.toInt_inj.mp (by omega)
set_option maxHeartbeats 4000000 in
theorem c_next {t : Sg} {v1 : Int32} {n : Nat} (hn : (t 3 2).toInt = (n : Int)) (n12 : n ≤ 12) (r36 : ∀ j, 0 ≤ (t 36 j).toInt ∧ (t 36 j).toInt ≤ 4095) (a0 : 0 ≤ v1.toInt) (a1 : v1.toInt ≤ 4095) : Ok (NXP t v1 n) (fX3_nextGroup v1 t) := by
  have k0 : (0 : Int32).toInt = 0 := by decide
  unfold fX3_nextGroup LX3_nextGroup_2
  refine ok_loop (I := fun (q : Int32 × Int32 × Sg) => q.1 = v1 ∧ 0 ≤ q.2.1.toInt ∧ q.2.1.toInt ≤ (n : Int) ∧ q.2.2 = t ∧ ∀ v : Nat, (v : Int) < q.2.1.toInt → ¬ NxS t n v1.toInt.toNat v) (m := fun (q : Int32 × Int32 × Sg) => (13 - q.2.1.toInt).toNat) _ ?_ ?_ _ ?_
  · intro q hq
    have := hq.2.1
    show (13 - q.2.1.toInt).toNat < 10000
    omega
  · intro rec q hq hrec
    obtain ⟨q1, v2, t'⟩ := q
    replace hq : q1 = v1 ∧ 0 ≤ v2.toInt ∧ v2.toInt ≤ (n : Int) ∧ t' = t ∧ ∀ v : Nat, (v : Int) < v2.toInt → ¬ NxS t n v1.toInt.toNat v := hq
    obtain ⟨e1, b0, b1, e2, hb⟩ := hq
    rw [e1, e2]
    show Ok _ (fX3_nextGroup_2 rec v1 v2 t)
    unfold fX3_nextGroup_2
    have hc2 := cl_i b0
    refine ok_ite (fun c => ?_) (fun c => ?_)
    · replace c := i_le.mp c
      rw [hn] at c
      exact ok_some ⟨rfl, a0, a1, Or.inr (fun v hv => hb v (by omega))⟩
    · replace c := i_nle.mp c
      rw [hn] at c
      have go : ¬ NxS t n v1.toInt.toNat v2.toInt.toNat → Ok (NXP t v1 n) (fX3_nextGroup_44 rec v1 v2 t) := by
        intro g1
        unfold fX3_nextGroup_44
        refine ok_lt (fun x e => ?_)
        replace e : x.toInt = v2.toInt + 1 := by rw [e]; exact add_c 1 (by decide) (by omega) (by omega)
        refine hrec (v1, x, t) ⟨rfl, by show 0 ≤ x.toInt; omega, by show x.toInt ≤ (n : Int); omega, rfl, fun v hv => ?_⟩ (show (13 - x.toInt).toNat < (13 - v2.toInt).toNat by omega)
        replace hv : (v : Int) < x.toInt := hv
        by_cases w : v = v2.toInt.toNat
        · rw [w]; exact g1
        · exact hb v (by omega)
      refine bnd2_of isIn_is ?_
      have bi := bit_n (a := v1) (v := v2) a0 b0 (by omega)
      by_cases f : ((v1 >>> (v2 &&& 31)) &&& (1 : Int32)) = (1 : Int32)
      · rw [if_pos f, ite1]
        have lf := bi.mp f
        refine ok_bnd2 (c_comers (v1 := v2) hn n12 r36 b0 c) (fun y7 s8 h8 => ?_)
        obtain ⟨g1, g2, g3, g4⟩ := h8
        replace g1 : s8 = t := g1
        replace g2 : 0 ≤ y7.toInt := g2
        replace g3 : y7.toInt ≤ 4095 := g3
        replace g4 : ∀ j, y7.toInt.toNat.testBit j = true ↔ (j < n ∧ RB t j v2.toInt.toNat) := g4
        rw [g1]
        have an := and_n g2 a0
        have al := and_l (a := y7) (b := v1) g2
        refine ok_lt (fun x10 e10 => ?_)
        rw [← e10] at an al
        have xb : ∀ j, x10.toInt.toNat.testBit j = true ↔ (j < n ∧ RB t j v2.toInt.toNat ∧ v1.toInt.toNat.testBit j = true) := fun j => by
          rw [an.1, Nat.testBit_and, Bool.and_eq_true, g4 j, and_assoc]
        have r2 := r36 v2.toInt.toNat
        refine ok_gin (by omega) (by omega) ?_
        rw [show v2.toNatClampNeg = v2.toInt.toNat by omega]
        have cp := tb_cpl (y := x10) (v := t 36 v2.toInt.toNat) an.2 r2.1
        have zt := zero_tb (y := x10 &&& (t 36 v2.toInt.toNat ^^^ (-1 : Int32))) (and_l (a := x10) an.2).1
        have nx : (x10 &&& (t 36 v2.toInt.toNat ^^^ (-1 : Int32))) = 0 ↔ NxS t n v1.toInt.toNat v2.toInt.toNat := by
          rw [zt]
          constructor
          · intro z
            refine ⟨lf, fun o h1 h2 h3 => ?_⟩
            have := z o
            rw [cp o, (xb o).mpr ⟨h1, h3, h2⟩, Bool.true_and] at this
            unfold RB
            cases hh : (t 36 v2.toInt.toNat).toInt.toNat.testBit o
            · rw [hh] at this; cases this
            · rfl
          · intro z j
            rw [cp j]
            cases hh : x10.toInt.toNat.testBit j
            · rfl
            · have q := (xb j).mp hh
              have := z.2 j q.1 q.2.2 q.2.1
              unfold RB at this
              rw [this]
              rfl
        refine ok_ite (fun d => ?_) (fun d => ?_)
        · exact ok_some ⟨rfl, an.2, by show x10.toInt ≤ 4095; omega, Or.inl ⟨v2.toInt.toNat, by omega, nx.mp d, fun v' hv' => hb v' (by omega), xb⟩⟩
        · exact go (fun z => d (nx.mpr z))
      · rw [if_neg f, ite0]
        exact go (fun z => f (bi.mpr z.1))
  · refine ⟨rfl, by show 0 ≤ (0 : Int32).toInt; omega, by show (0 : Int32).toInt ≤ (n : Int); omega, rfl, fun v hv => ?_⟩
    replace hv : (v : Int) < (0 : Int32).toInt := hv
    omega
