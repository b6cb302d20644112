/-! the reference: what is kept by writing all but (0, 17) -/
def wfr (k j : Nat) : Bool := !(k == 0 && j == 17)
def KWr (K : Sg → Prop) : Prop := ∀ sg k j v, wfr k j = true → K sg → K (up2 sg k j v)
theorem qfX12_hens {K : Sg → Prop} (hK : KWr K) {sg : Sg} {lg : Lg} {y : Int32 × Sg × Lg} (h : fX12_hens sg lg = some y) (hk : K sg) : K y.2.1 := by
  unfold fX12_hens at h
  replace h := p_gin h
  cases h
  exact hk
theorem qfX12_isIn {K : Sg → Prop} (hK : KWr K) {v0 : Int64} {v2 : Int64} {v4 : Int64} {sg : Sg} {lg : Lg} {y : Int32 × Sg × Lg} (h : fX12_isIn v0 v2 v4 sg lg = some y) (hk : K sg) : K y.2.1 := by
  unfold fX12_isIn at h
  rcases p_ite h with h | h
  · skip
    cases h
    exact hk
  · skip
    rcases p_ite h with h | h
    · skip
      cases h
      exact hk
    · skip
      cases h
      exact hk
theorem qfX12_isHen {K : Sg → Prop} (hK : KWr K) {v1 : Int32} {sg : Sg} {lg : Lg} {y : Int32 × Sg × Lg} (h : fX12_isHen v1 sg lg = some y) (hk : K sg) : K y.2.1 := by
  unfold fX12_isHen at h
  obtain ⟨y1, sg2, lg3, clg3, h⟩ := p_bnd3 h
  have qsg2 : K sg2 := qfX12_hens hK  clg3 hk
  obtain ⟨y5, sg6, lg7, clg7, h⟩ := p_bnd3 h
  have qsg6 : K sg6 := qfX12_isIn hK  clg7 qsg2
  replace h := p_gz h
  cases h
  exact qsg6
theorem qfX12_kind {K : Sg → Prop} (hK : KWr K) {v1 : Int32} {sg : Sg} {lg : Lg} {y : Int32 × Sg × Lg} (h : fX12_kind v1 sg lg = some y) (hk : K sg) : K y.2.1 := by
  unfold fX12_kind at h
  obtain ⟨x1, ex1, h⟩ := p_lt h
  replace h := p_gin h
  cases h
  exact hk
theorem qfX12_counts {K : Sg → Prop} (hK : KWr K) {v1 : Int32} {sg : Sg} {lg : Lg} {y : Int32 × Sg × Lg} (h : fX12_counts v1 sg lg = some y) (hk : K sg) : K y.2.1 := by
  unfold fX12_counts at h
  obtain ⟨y1, sg2, lg3, clg3, h⟩ := p_bnd3 h
  have qsg2 : K sg2 := qfX12_isHen hK  clg3 hk
  rcases p_ite h with h | h
  · skip
    cases h
    exact qsg2
  · skip
    obtain ⟨y6, sg7, lg8, clg8, h⟩ := p_bnd3 h
    have qsg7 : K sg7 := qfX12_kind hK  clg8 qsg2
    rcases p_ite h with h | h
    · skip
      obtain ⟨x11, ex11, h⟩ := p_lt h
      replace h := p_gin h
      rcases p_ite h with h | h
      · skip
        cases h
        exact qsg7
      · skip
        cases h
        exact qsg7
    · skip
      cases h
      exact qsg7
theorem qfX12_counting_28 {K : Sg → Prop} (hK : KWr K) {r4 : (Int32 × Int32 × Sg × Lg) → Option (Int32 × Sg × Lg)} {v2 : Int32} {w0 : Int32} {w1 : Int32} {sg : Sg} {lg : Lg} {y : Int32 × Sg × Lg} (hr4 : ∀ z, r4 z = some y → K z.2.2.1 → K y.2.1) (h : fX12_counting_28 r4 v2 w0 w1 sg lg = some y) (hk : K sg) : K y.2.1 := by
  unfold fX12_counting_28 at h
  obtain ⟨x1, ex1, h⟩ := p_lt h
  obtain ⟨x2, ex2, h⟩ := p_lt h
  exact hr4 _ h hk
theorem qfX12_counting_4 {K : Sg → Prop} (hK : KWr K) {r4 : (Int32 × Int32 × Sg × Lg) → Option (Int32 × Sg × Lg)} {v1 : Int32} {v2 : Int32} {sg : Sg} {lg : Lg} {y : Int32 × Sg × Lg} (hr4 : ∀ z, r4 z = some y → K z.2.2.1 → K y.2.1) (h : fX12_counting_4 r4 v1 v2 sg lg = some y) (hk : K sg) : K y.2.1 := by
  unfold fX12_counting_4 at h
  obtain ⟨y1, sg2, lg3, clg3, h⟩ := p_bnd3 h
  have qsg2 : K sg2 := qfX12_hens hK  clg3 hk
  rcases p_ite h with h | h
  · skip
    cases h
    exact qsg2
  · skip
    obtain ⟨y6, sg7, lg8, clg8, h⟩ := p_bnd3 h
    have qsg7 : K sg7 := qfX12_counts hK  clg8 qsg2
    rcases p_ite h with h | h
    · skip
      exact qfX12_counting_28 hK hr4 h qsg7
    · skip
      exact qfX12_counting_28 hK hr4 h qsg7
theorem qLX12_counting_4 {K : Sg → Prop} (hK : KWr K) {y : Int32 × Sg × Lg} : ∀ z, LX12_counting_4 z = some y → K z.2.2.1 → K y.2.1 := by
  intro z h
  unfold LX12_counting_4 at h
  exact loop_ind (fun rec z => fX12_counting_4 rec z.1 z.2.1 z.2.2.1 z.2.2.2) (y := y) (P := fun z => K z.2.2.1 → K y.2.1) (fun rec hrec z h hk => qfX12_counting_4 hK hrec h hk) z h
theorem qfX12_counting {K : Sg → Prop} (hK : KWr K) {sg : Sg} {lg : Lg} {y : Int32 × Sg × Lg} (h : fX12_counting sg lg = some y) (hk : K sg) : K y.2.1 := by
  unfold fX12_counting at h
  exact qLX12_counting_4 hK  _ h hk
theorem qfX12_fill_150 {K : Sg → Prop} (hK : KWr K) {r25 : (Int32 × Int32 × Sg × Lg) → Option (Sg × Lg)} {v4 : Int32} {v5 : Int32} {sg : Sg} {lg : Lg} {y : Sg × Lg} (hr25 : ∀ z, r25 z = some y → K z.2.2.1 → K y.1) (h : fX12_fill_150 r25 v4 v5 sg lg = some y) (hk : K sg) : K y.1 := by
  unfold fX12_fill_150 at h
  obtain ⟨x1, ex1, h⟩ := p_lt h
  exact hr25 _ h hk
theorem qfX12_fill_144 {K : Sg → Prop} (hK : KWr K) {r25 : (Int32 × Int32 × Sg × Lg) → Option (Sg × Lg)} {r43 : (Int32 × Int32 × Int32 × Sg × Lg) → Option (Sg × Lg)} {v4 : Int32} {v5 : Int32} {v6 : Int32} {sg : Sg} {lg : Lg} {y : Sg × Lg} (hr25 : ∀ z, r25 z = some y → K z.2.2.1 → K y.1) (hr43 : ∀ z, r43 z = some y → K z.2.2.2.1 → K y.1) (h : fX12_fill_144 r25 r43 v4 v5 v6 sg lg = some y) (hk : K sg) : K y.1 := by
  unfold fX12_fill_144 at h
  obtain ⟨x1, ex1, h⟩ := p_lt h
  exact hr43 _ h hk
theorem qfX12_asks {K : Sg → Prop} (hK : KWr K) {v1 : Int32} {sg : Sg} {lg : Lg} {y : Int32 × Sg × Lg} (h : fX12_asks v1 sg lg = some y) (hk : K sg) : K y.2.1 := by
  unfold fX12_asks at h
  obtain ⟨x1, ex1, h⟩ := p_lt h
  replace h := p_gin h
  cases h
  exact hk
theorem qfX12_askedBy {K : Sg → Prop} (hK : KWr K) {v1 : Int32} {sg : Sg} {lg : Lg} {y : Int32 × Sg × Lg} (h : fX12_askedBy v1 sg lg = some y) (hk : K sg) : K y.2.1 := by
  unfold fX12_askedBy at h
  obtain ⟨y1, sg2, lg3, clg3, h⟩ := p_bnd3 h
  have qsg2 : K sg2 := qfX12_kind hK  clg3 hk
  obtain ⟨y5, sg6, lg7, clg7, h⟩ := p_bnd3 h
  have qsg6 : K sg6 := qfX12_isIn hK  clg7 qsg2
  rcases p_ite h with h | h
  · skip
    cases h
    exact qsg6
  · skip
    obtain ⟨y10, sg11, lg12, clg12, h⟩ := p_bnd3 h
    have qsg11 : K sg11 := qfX12_counts hK  clg12 qsg6
    rcases p_ite h with h | h
    · skip
      cases h
      exact qsg11
    · skip
      obtain ⟨y15, sg16, lg17, clg17, h⟩ := p_bnd3 h
      have qsg16 : K sg16 := qfX12_asks hK  clg17 qsg11
      obtain ⟨y19, sg20, lg21, clg21, h⟩ := p_bnd3 h
      have qsg20 : K sg20 := qfX12_counts hK  clg21 qsg16
      rcases p_ite h with h | h
      · skip
        cases h
        exact qsg20
      · skip
        obtain ⟨y24, sg25, lg26, clg26, h⟩ := p_bnd3 h
        have qsg25 : K sg25 := qfX12_asks hK  clg26 qsg20
        cases h
        exact qsg25
theorem qfX12_may_29 {K : Sg → Prop} (hK : KWr K) {v1 : Int32} {v3 : Int32} {v4 : Int32} {w0 : Int32} {sg : Sg} {lg : Lg} {y : Int32 × Sg × Lg} (h : fX12_may_29 v1 v3 v4 w0 sg lg = some y) (hk : K sg) : K y.2.1 := by
  unfold fX12_may_29 at h
  obtain ⟨y1, sg2, lg3, clg3, h⟩ := p_bnd3 h
  have qsg2 : K sg2 := qfX12_kind hK  clg3 hk
  rcases p_ite h with h | h
  · skip
    replace h := p_gz h
    cases h
    exact qsg2
  · skip
    obtain ⟨y6, sg7, lg8, clg8, h⟩ := p_bnd3 h
    have qsg7 : K sg7 := qfX12_kind hK  clg8 qsg2
    rcases p_ite h with h | h
    · skip
      rcases p_ite h with h | h
      · skip
        cases h
        exact qsg7
      · skip
        cases h
        exact qsg7
    · skip
      rcases p_ite h with h | h
      · skip
        cases h
        exact qsg7
      · skip
        cases h
        exact qsg7
theorem qfX12_may {K : Sg → Prop} (hK : KWr K) {v1 : Int32} {v2 : Int32} {v3 : Int32} {sg : Sg} {lg : Lg} {y : Int32 × Sg × Lg} (h : fX12_may v1 v2 v3 sg lg = some y) (hk : K sg) : K y.2.1 := by
  unfold fX12_may at h
  obtain ⟨y1, sg2, lg3, clg3, h⟩ := p_bnd3 h
  have qsg2 : K sg2 := qfX12_askedBy hK  clg3 hk
  rcases p_ite h with h | h
  · skip
    rcases p_ite h with h | h
    · skip
      exact qfX12_may_29 hK  h qsg2
    · skip
      exact qfX12_may_29 hK  h qsg2
  · skip
    cases h
    exact qsg2
theorem qfX12_mayCome_40 {K : Sg → Prop} (hK : KWr K) {v1 : Int32} {v2 : Int32} {v3 : Int32} {sg : Sg} {lg : Lg} {y : Int32 × Sg × Lg} (h : fX12_mayCome_40 v1 v2 v3 sg lg = some y) (hk : K sg) : K y.2.1 := by
  unfold fX12_mayCome_40 at h
  rcases p_ite h with h | h
  · skip
    cases h
    exact hk
  · skip
    obtain ⟨y2, sg3, lg4, clg4, h⟩ := p_bnd3 h
    have qsg3 : K sg3 := qfX12_may hK  clg4 hk
    rcases p_ite h with h | h
    · skip
      cases h
      exact qsg3
    · skip
      cases h
      exact qsg3
theorem qfX12_mayCome {K : Sg → Prop} (hK : KWr K) {v1 : Int32} {v2 : Int32} {v3 : Int32} {sg : Sg} {lg : Lg} {y : Int32 × Sg × Lg} (h : fX12_mayCome v1 v2 v3 sg lg = some y) (hk : K sg) : K y.2.1 := by
  unfold fX12_mayCome at h
  rcases p_ite h with h | h
  · skip
    cases h
    exact hk
  · skip
    obtain ⟨y2, sg3, lg4, clg4, h⟩ := p_bnd3 h
    have qsg3 : K sg3 := qfX12_counts hK  clg4 hk
    rcases p_ite h with h | h
    · skip
      cases h
      exact qsg3
    · skip
      rcases p_ite h with h | h
      · skip
        rcases p_ite h with h | h
        · skip
          cases h
          exact qsg3
        · skip
          exact qfX12_mayCome_40 hK  h qsg3
      · skip
        exact qfX12_mayCome_40 hK  h qsg3
theorem qfX12_fillState_165 {K : Sg → Prop} (hK : KWr K) {r26 : (Int32 × Int32 × Int32 × Int32 × Sg × Lg) → Option (Sg × Lg)} {v1 : Int32} {v2 : Int32} {v3 : Int32} {v4 : Int32} {sg : Sg} {lg : Lg} {y : Sg × Lg} (hr26 : ∀ z, r26 z = some y → K z.2.2.2.2.1 → K y.1) (h : fX12_fillState_165 r26 v1 v2 v3 v4 sg lg = some y) (hk : K sg) : K y.1 := by
  unfold fX12_fillState_165 at h
  obtain ⟨x1, ex1, h⟩ := p_lt h
  exact hr26 _ h hk
theorem qfX12_peckOf {K : Sg → Prop} (hK : KWr K) {v1 : Int32} {v2 : Int32} {sg : Sg} {lg : Lg} {y : Int32 × Sg × Lg} (h : fX12_peckOf v1 v2 sg lg = some y) (hk : K sg) : K y.2.1 := by
  unfold fX12_peckOf at h
  obtain ⟨x1, ex1, h⟩ := p_lt h
  replace h := p_gin h
  cases h
  exact hk
theorem qfX12_cost_35 {K : Sg → Prop} (hK : KWr K) {r5 : (Int32 × Int32 × Int64 × Int32 × Sg × Lg) → Option (Int64 × Sg × Lg)} {v1 : Int32} {v2 : Int32} {v5 : Int32} {w0 : Int64} {w1 : Int64} {sg : Sg} {lg : Lg} {y : Int64 × Sg × Lg} (hr5 : ∀ z, r5 z = some y → K z.2.2.2.2.1 → K y.2.1) (h : fX12_cost_35 r5 v1 v2 v5 w0 w1 sg lg = some y) (hk : K sg) : K y.2.1 := by
  unfold fX12_cost_35 at h
  obtain ⟨x1, ex1, h⟩ := p_lt h
  obtain ⟨x2, ex2, h⟩ := p_lt h
  exact hr5 _ h hk
theorem qfX12_cost_5 {K : Sg → Prop} (hK : KWr K) {r5 : (Int32 × Int32 × Int64 × Int32 × Sg × Lg) → Option (Int64 × Sg × Lg)} {v1 : Int32} {v2 : Int32} {v3 : Int64} {v5 : Int32} {sg : Sg} {lg : Lg} {y : Int64 × Sg × Lg} (hr5 : ∀ z, r5 z = some y → K z.2.2.2.2.1 → K y.2.1) (h : fX12_cost_5 r5 v1 v2 v3 v5 sg lg = some y) (hk : K sg) : K y.2.1 := by
  unfold fX12_cost_5 at h
  rcases p_ite h with h | h
  · skip
    cases h
    exact hk
  · skip
    rcases p_ite h with h | h
    · skip
      obtain ⟨y3, sg4, lg5, clg5, h⟩ := p_bnd3 h
      have qsg4 : K sg4 := qfX12_peckOf hK  clg5 hk
      exact qfX12_cost_35 hK hr5 h qsg4
    · skip
      exact qfX12_cost_35 hK hr5 h hk
theorem qLX12_cost_5 {K : Sg → Prop} (hK : KWr K) {y : Int64 × Sg × Lg} : ∀ z, LX12_cost_5 z = some y → K z.2.2.2.2.1 → K y.2.1 := by
  intro z h
  unfold LX12_cost_5 at h
  exact loop_ind (fun rec z => fX12_cost_5 rec z.1 z.2.1 z.2.2.1 z.2.2.2.1 z.2.2.2.2.1 z.2.2.2.2.2) (y := y) (P := fun z => K z.2.2.2.2.1 → K y.2.1) (fun rec hrec z h hk => qfX12_cost_5 hK hrec h hk) z h
theorem qfX12_cost {K : Sg → Prop} (hK : KWr K) {v1 : Int32} {v2 : Int32} {sg : Sg} {lg : Lg} {y : Int64 × Sg × Lg} (h : fX12_cost v1 v2 sg lg = some y) (hk : K sg) : K y.2.1 := by
  unfold fX12_cost at h
  exact qLX12_cost_5 hK  _ h hk
theorem qfX12_fillState_163 {K : Sg → Prop} (hK : KWr K) {r26 : (Int32 × Int32 × Int32 × Int32 × Sg × Lg) → Option (Sg × Lg)} {v1 : Int32} {v2 : Int32} {v3 : Int32} {v4 : Int32} {w0 : Int64} {w1 : Int64} {w2 : Int32} {sg : Sg} {lg : Lg} {y : Sg × Lg} (hr26 : ∀ z, r26 z = some y → K z.2.2.2.2.1 → K y.1) (h : fX12_fillState_163 r26 v1 v2 v3 v4 w0 w1 w2 sg lg = some y) (hk : K sg) : K y.1 := by
  unfold fX12_fillState_163 at h
  obtain ⟨x1, ex1, h⟩ := p_lt h
  replace h := p_gin h
  obtain ⟨lg3, elg3, h⟩ := p_lt h
  exact qfX12_fillState_165 hK hr26 h hk
theorem qfX12_fillState_162 {K : Sg → Prop} (hK : KWr K) {r26 : (Int32 × Int32 × Int32 × Int32 × Sg × Lg) → Option (Sg × Lg)} {v1 : Int32} {v2 : Int32} {v3 : Int32} {v4 : Int32} {w0 : Int64} {w1 : Int32} {sg : Sg} {lg : Lg} {y : Sg × Lg} (hr26 : ∀ z, r26 z = some y → K z.2.2.2.2.1 → K y.1) (h : fX12_fillState_162 r26 v1 v2 v3 v4 w0 w1 sg lg = some y) (hk : K sg) : K y.1 := by
  unfold fX12_fillState_162 at h
  exact qfX12_fillState_163 hK hr26 h hk
theorem qfX12_fillState_124 {K : Sg → Prop} (hK : KWr K) {r26 : (Int32 × Int32 × Int32 × Int32 × Sg × Lg) → Option (Sg × Lg)} {v1 : Int32} {v2 : Int32} {v3 : Int32} {v4 : Int32} {v5 : Int32} {v6 : Int64} {sg : Sg} {lg : Lg} {y : Sg × Lg} (hr26 : ∀ z, r26 z = some y → K z.2.2.2.2.1 → K y.1) (h : fX12_fillState_124 r26 v1 v2 v3 v4 v5 v6 sg lg = some y) (hk : K sg) : K y.1 := by
  unfold fX12_fillState_124 at h
  replace h := p_gin h
  rcases p_ite h with h | h
  · skip
    exact qfX12_fillState_162 hK hr26 h hk
  · skip
    replace h := p_gin h
    rcases p_ite h with h | h
    · skip
      replace h := p_gin h
      exact qfX12_fillState_163 hK hr26 h hk
    · skip
      exact qfX12_fillState_162 hK hr26 h hk
theorem qfX12_fillState_95 {K : Sg → Prop} (hK : KWr K) {r26 : (Int32 × Int32 × Int32 × Int32 × Sg × Lg) → Option (Sg × Lg)} {v1 : Int32} {v2 : Int32} {v3 : Int32} {v4 : Int32} {v5 : Int32} {w0 : Int64} {sg : Sg} {lg : Lg} {y : Sg × Lg} (hr26 : ∀ z, r26 z = some y → K z.2.2.2.2.1 → K y.1) (h : fX12_fillState_95 r26 v1 v2 v3 v4 v5 w0 sg lg = some y) (hk : K sg) : K y.1 := by
  unfold fX12_fillState_95 at h
  replace h := p_gin h
  rcases p_ite h with h | h
  · skip
    exact qfX12_fillState_124 hK hr26 h hk
  · skip
    replace h := p_gin h
    obtain ⟨lg4, elg4, h⟩ := p_lt h
    replace h := p_gin h
    obtain ⟨lg6, elg6, h⟩ := p_lt h
    exact qfX12_fillState_124 hK hr26 h hk
theorem qfX12_fillState_26 {K : Sg → Prop} (hK : KWr K) {r26 : (Int32 × Int32 × Int32 × Int32 × Sg × Lg) → Option (Sg × Lg)} {v1 : Int32} {v2 : Int32} {v3 : Int32} {v4 : Int32} {sg : Sg} {lg : Lg} {y : Sg × Lg} (hr26 : ∀ z, r26 z = some y → K z.2.2.2.2.1 → K y.1) (h : fX12_fillState_26 r26 v1 v2 v3 v4 sg lg = some y) (hk : K sg) : K y.1 := by
  unfold fX12_fillState_26 at h
  obtain ⟨y1, sg2, lg3, clg3, h⟩ := p_bnd3 h
  have qsg2 : K sg2 := qfX12_hens hK  clg3 hk
  rcases p_ite h with h | h
  · skip
    cases h
    exact qsg2
  · skip
    obtain ⟨y6, sg7, lg8, clg8, h⟩ := p_bnd3 h
    have qsg7 : K sg7 := qfX12_mayCome hK  clg8 qsg2
    rcases p_ite h with h | h
    · skip
      exact qfX12_fillState_165 hK hr26 h qsg7
    · skip
      obtain ⟨x11, ex11, h⟩ := p_lt h
      replace h := p_gin h
      rcases p_ite h with h | h
      · skip
        obtain ⟨y14, sg15, lg16, clg16, h⟩ := p_bnd3 h
        have qsg15 : K sg15 := qfX12_cost hK  clg16 qsg7
        replace h := p_gin h
        exact qfX12_fillState_95 hK hr26 h qsg15
      · skip
        exact qfX12_fillState_95 hK hr26 h qsg7
theorem qLX12_fillState_26 {K : Sg → Prop} (hK : KWr K) {y : Sg × Lg} : ∀ z, LX12_fillState_26 z = some y → K z.2.2.2.2.1 → K y.1 := by
  intro z h
  unfold LX12_fillState_26 at h
  exact loop_ind (fun rec z => fX12_fillState_26 rec z.1 z.2.1 z.2.2.1 z.2.2.2.1 z.2.2.2.2.1 z.2.2.2.2.2) (y := y) (P := fun z => K z.2.2.2.2.1 → K y.1) (fun rec hrec z h hk => qfX12_fillState_26 hK hrec h hk) z h
theorem qfX12_fillState {K : Sg → Prop} (hK : KWr K) {v1 : Int32} {v2 : Int32} {sg : Sg} {lg : Lg} {y : Sg × Lg} (h : fX12_fillState v1 v2 sg lg = some y) (hk : K sg) : K y.1 := by
  unfold fX12_fillState at h
  obtain ⟨x1, ex1, h⟩ := p_lt h
  replace h := p_gin h
  obtain ⟨lg3, elg3, h⟩ := p_lt h
  replace h := p_gin h
  obtain ⟨lg5, elg5, h⟩ := p_lt h
  exact qLX12_fillState_26 hK  _ h hk
theorem qfX12_fill_131 {K : Sg → Prop} (hK : KWr K) {r25 : (Int32 × Int32 × Sg × Lg) → Option (Sg × Lg)} {r43 : (Int32 × Int32 × Int32 × Sg × Lg) → Option (Sg × Lg)} {v4 : Int32} {v5 : Int32} {v6 : Int32} {v7 : Int32} {sg : Sg} {lg : Lg} {y : Sg × Lg} (hr25 : ∀ z, r25 z = some y → K z.2.2.1 → K y.1) (hr43 : ∀ z, r43 z = some y → K z.2.2.2.1 → K y.1) (h : fX12_fill_131 r25 r43 v4 v5 v6 v7 sg lg = some y) (hk : K sg) : K y.1 := by
  unfold fX12_fill_131 at h
  rcases p_ite h with h | h
  · skip
    exact qfX12_fill_144 hK hr25 hr43 h hk
  · skip
    obtain ⟨sg2, lg3, clg3, h⟩ := p_bnd2 h
    have qsg2 : K sg2 := qfX12_fillState hK  clg3 hk
    exact qfX12_fill_144 hK hr25 hr43 h qsg2
theorem qfX12_fill_86 {K : Sg → Prop} (hK : KWr K) {r25 : (Int32 × Int32 × Sg × Lg) → Option (Sg × Lg)} {r43 : (Int32 × Int32 × Int32 × Sg × Lg) → Option (Sg × Lg)} {v4 : Int32} {v5 : Int32} {v6 : Int32} {w0 : Int32} {sg : Sg} {lg : Lg} {y : Sg × Lg} (hr25 : ∀ z, r25 z = some y → K z.2.2.1 → K y.1) (hr43 : ∀ z, r43 z = some y → K z.2.2.2.1 → K y.1) (h : fX12_fill_86 r25 r43 v4 v5 v6 w0 sg lg = some y) (hk : K sg) : K y.1 := by
  unfold fX12_fill_86 at h
  rcases p_ite h with h | h
  · skip
    exact qfX12_fill_131 hK hr25 hr43 h hk
  · skip
    rcases p_ite h with h | h
    · skip
      replace h := p_gin h
      obtain ⟨lg4, elg4, h⟩ := p_lt h
      replace h := p_gin h
      obtain ⟨lg6, elg6, h⟩ := p_lt h
      exact qfX12_fill_144 hK hr25 hr43 h hk
    · skip
      exact qfX12_fill_131 hK hr25 hr43 h hk
theorem qfX12_fill_43 {K : Sg → Prop} (hK : KWr K) {r25 : (Int32 × Int32 × Sg × Lg) → Option (Sg × Lg)} {r43 : (Int32 × Int32 × Int32 × Sg × Lg) → Option (Sg × Lg)} {v4 : Int32} {v5 : Int32} {v6 : Int32} {sg : Sg} {lg : Lg} {y : Sg × Lg} (hr25 : ∀ z, r25 z = some y → K z.2.2.1 → K y.1) (hr43 : ∀ z, r43 z = some y → K z.2.2.2.1 → K y.1) (h : fX12_fill_43 r25 r43 v4 v5 v6 sg lg = some y) (hk : K sg) : K y.1 := by
  unfold fX12_fill_43 at h
  rcases p_ite h with h | h
  · skip
    exact qfX12_fill_150 hK hr25 h hk
  · skip
    rcases p_ite h with h | h
    · skip
      rcases p_ite h with h | h
      · skip
        exact qfX12_fill_86 hK hr25 hr43 h hk
      · skip
        exact qfX12_fill_86 hK hr25 hr43 h hk
    · skip
      rcases p_ite h with h | h
      · skip
        exact qfX12_fill_86 hK hr25 hr43 h hk
      · skip
        exact qfX12_fill_86 hK hr25 hr43 h hk
theorem qLX12_fill_43 {K : Sg → Prop} (hK : KWr K) {r25 : (Int32 × Int32 × Sg × Lg) → Option (Sg × Lg)} {y : Sg × Lg} (hr25 : ∀ z, r25 z = some y → K z.2.2.1 → K y.1) : ∀ z, LX12_fill_43 r25 z = some y → K z.2.2.2.1 → K y.1 := by
  intro z h
  unfold LX12_fill_43 at h
  exact loop_ind (fun rec z => fX12_fill_43 r25 rec z.1 z.2.1 z.2.2.1 z.2.2.2.1 z.2.2.2.2) (y := y) (P := fun z => K z.2.2.2.1 → K y.1) (fun rec hrec z h hk => qfX12_fill_43 hK hr25 hrec h hk) z h
theorem qfX12_fill_25 {K : Sg → Prop} (hK : KWr K) {r25 : (Int32 × Int32 × Sg × Lg) → Option (Sg × Lg)} {v4 : Int32} {v5 : Int32} {sg : Sg} {lg : Lg} {y : Sg × Lg} (hr25 : ∀ z, r25 z = some y → K z.2.2.1 → K y.1) (h : fX12_fill_25 r25 v4 v5 sg lg = some y) (hk : K sg) : K y.1 := by
  unfold fX12_fill_25 at h
  rcases p_ite h with h | h
  · skip
    cases h
    exact hk
  · skip
    rcases p_ite h with h | h
    · skip
      exact qLX12_fill_43 hK hr25 _ h hk
    · skip
      exact qfX12_fill_150 hK hr25 h hk
theorem qLX12_fill_25 {K : Sg → Prop} (hK : KWr K) {y : Sg × Lg} : ∀ z, LX12_fill_25 z = some y → K z.2.2.1 → K y.1 := by
  intro z h
  unfold LX12_fill_25 at h
  exact loop_ind (fun rec z => fX12_fill_25 rec z.1 z.2.1 z.2.2.1 z.2.2.2) (y := y) (P := fun z => K z.2.2.1 → K y.1) (fun rec hrec z h hk => qfX12_fill_25 hK hrec h hk) z h
theorem qfX12_fill {K : Sg → Prop} (hK : KWr K) {v1 : Int32} {v2 : Int32} {v3 : Int32} {sg : Sg} {lg : Lg} {y : Sg × Lg} (h : fX12_fill v1 v2 v3 sg lg = some y) (hk : K sg) : K y.1 := by
  unfold fX12_fill at h
  replace h := p_gz h
  obtain ⟨sg2, esg2, h⟩ := p_lt h
  have qsg2 : K sg2 := by rw [esg2]; exact hK _ _ _ _ rfl hk
  obtain ⟨sg3, esg3, h⟩ := p_lt h
  have qsg3 : K sg3 := by rw [esg3]; exact hK _ _ _ _ rfl qsg2
  obtain ⟨sg4, esg4, h⟩ := p_lt h
  have qsg4 : K sg4 := by rw [esg4]; exact hK _ _ _ _ rfl qsg3
  obtain ⟨y5, sg6, lg7, clg7, h⟩ := p_bnd3 h
  have qsg6 : K sg6 := qfX12_counting hK  clg7 qsg4
  exact qLX12_fill_25 hK  _ h qsg6
theorem qfX12_begun {K : Sg → Prop} (hK : KWr K) {sg : Sg} {lg : Lg} {y : Int32 × Sg × Lg} (h : fX12_begun sg lg = some y) (hk : K sg) : K y.2.1 := by
  unfold fX12_begun at h
  cases h
  exact hk
theorem qfX12_loose {K : Sg → Prop} (hK : KWr K) {sg : Sg} {lg : Lg} {y : Int64 × Sg × Lg} (h : fX12_loose sg lg = some y) (hk : K sg) : K y.2.1 := by
  unfold fX12_loose at h
  obtain ⟨sg1, lg2, clg2, h⟩ := p_bnd2 h
  have qsg1 : K sg1 := qfX12_fill hK  clg2 hk
  obtain ⟨y4, sg5, lg6, clg6, h⟩ := p_bnd3 h
  have qsg5 : K sg5 := qfX12_begun hK  clg6 qsg1
  replace h := p_gin h
  cases h
  exact qsg5
theorem qfX12_least {K : Sg → Prop} (hK : KWr K) {sg : Sg} {lg : Lg} {y : Int64 × Sg × Lg} (h : fX12_least sg lg = some y) (hk : K sg) : K y.2.1 := by
  unfold fX12_least at h
  obtain ⟨sg1, lg2, clg2, h⟩ := p_bnd2 h
  have qsg1 : K sg1 := qfX12_fill hK  clg2 hk
  obtain ⟨y4, sg5, lg6, clg6, h⟩ := p_bnd3 h
  have qsg5 : K sg5 := qfX12_begun hK  clg6 qsg1
  replace h := p_gin h
  rcases p_ite h with h | h
  · skip
    obtain ⟨y10, sg11, lg12, clg12, h⟩ := p_bnd3 h
    have qsg11 : K sg11 := qfX12_begun hK  clg12 qsg5
    replace h := p_gin h
    cases h
    exact qsg11
  · skip
    cases h
    exact qsg5
theorem qfX12_many {K : Sg → Prop} (hK : KWr K) {sg : Sg} {lg : Lg} {y : Int64 × Sg × Lg} (h : fX12_many sg lg = some y) (hk : K sg) : K y.2.1 := by
  unfold fX12_many at h
  obtain ⟨sg1, lg2, clg2, h⟩ := p_bnd2 h
  have qsg1 : K sg1 := qfX12_fill hK  clg2 hk
  obtain ⟨y4, sg5, lg6, clg6, h⟩ := p_bnd3 h
  have qsg5 : K sg5 := qfX12_begun hK  clg6 qsg1
  replace h := p_gin h
  cases h
  exact qsg5
theorem qfX12_sure_111 {K : Sg → Prop} (hK : KWr K) {v5 : Int64} {w0 : Int64} {sg : Sg} {lg : Lg} {y : Int64 × Sg × Lg} (h : fX12_sure_111 v5 w0 sg lg = some y) (hk : K sg) : K y.2.1 := by
  unfold fX12_sure_111 at h
  rcases p_ite h with h | h
  · skip
    cases h
    exact hk
  · skip
    rcases p_ite h with h | h
    · skip
      cases h
      exact hk
    · skip
      cases h
      exact hk
theorem qfX12_sure {K : Sg → Prop} (hK : KWr K) {v1 : Int32} {v2 : Int32} {sg : Sg} {lg : Lg} {y : Int64 × Sg × Lg} (h : fX12_sure v1 v2 sg lg = some y) (hk : K sg) : K y.2.1 := by
  unfold fX12_sure at h
  obtain ⟨y1, sg2, lg3, clg3, h⟩ := p_bnd3 h
  have qsg2 : K sg2 := qfX12_isHen hK  clg3 hk
  rcases p_ite h with h | h
  · skip
    cases h
    exact qsg2
  · skip
    obtain ⟨y6, sg7, lg8, clg8, h⟩ := p_bnd3 h
    have qsg7 : K sg7 := qfX12_isHen hK  clg8 qsg2
    rcases p_ite h with h | h
    · skip
      cases h
      exact qsg7
    · skip
      rcases p_ite h with h | h
      · skip
        cases h
        exact qsg7
      · skip
        obtain ⟨y12, sg13, lg14, clg14, h⟩ := p_bnd3 h
        have qsg13 : K sg13 := qfX12_counts hK  clg14 qsg7
        rcases p_ite h with h | h
        · skip
          cases h
          exact qsg13
        · skip
          obtain ⟨y17, sg18, lg19, clg19, h⟩ := p_bnd3 h
          have qsg18 : K sg18 := qfX12_counts hK  clg19 qsg13
          rcases p_ite h with h | h
          · skip
            cases h
            exact qsg18
          · skip
            obtain ⟨sg22, lg23, clg23, h⟩ := p_bnd2 h
            have qsg22 : K sg22 := qfX12_fill hK  clg23 qsg18
            obtain ⟨y25, sg26, lg27, clg27, h⟩ := p_bnd3 h
            have qsg26 : K sg26 := qfX12_begun hK  clg27 qsg22
            replace h := p_gin h
            obtain ⟨x30, ex30, h⟩ := p_lt h
            obtain ⟨y31, sg32, lg33, clg33, h⟩ := p_bnd3 h
            have qsg32 : K sg32 := qfX12_begun hK  clg33 qsg26
            replace h := p_gin h
            obtain ⟨x36, ex36, h⟩ := p_lt h
            rcases p_ite h with h | h
            · skip
              obtain ⟨sg38, lg39, clg39, h⟩ := p_bnd2 h
              have qsg38 : K sg38 := qfX12_fill hK  clg39 qsg32
              obtain ⟨y41, sg42, lg43, clg43, h⟩ := p_bnd3 h
              have qsg42 : K sg42 := qfX12_begun hK  clg43 qsg38
              replace h := p_gin h
              rcases p_ite h with h | h
              · skip
                obtain ⟨y47, sg48, lg49, clg49, h⟩ := p_bnd3 h
                have qsg48 : K sg48 := qfX12_begun hK  clg49 qsg42
                replace h := p_gin h
                exact qfX12_sure_111 hK  h qsg48
              · skip
                exact qfX12_sure_111 hK  h qsg42
            · skip
              cases h
              exact qsg32
theorem qfX12_isBest {K : Sg → Prop} (hK : KWr K) {v1 : Int32} {v2 : Int32} {v3 : Int32} {sg : Sg} {lg : Lg} {y : Int32 × Sg × Lg} (h : fX12_isBest v1 v2 v3 sg lg = some y) (hk : K sg) : K y.2.1 := by
  unfold fX12_isBest at h
  obtain ⟨x1, ex1, h⟩ := p_lt h
  obtain ⟨y2, sg3, lg4, clg4, h⟩ := p_bnd3 h
  have qsg3 : K sg3 := qfX12_mayCome hK  clg4 hk
  rcases p_ite h with h | h
  · skip
    cases h
    exact qsg3
  · skip
    replace h := p_gin h
    rcases p_ite h with h | h
    · skip
      cases h
      exact qsg3
    · skip
      obtain ⟨y9, sg10, lg11, clg11, h⟩ := p_bnd3 h
      have qsg10 : K sg10 := qfX12_cost hK  clg11 qsg3
      replace h := p_gin h
      obtain ⟨x14, ex14, h⟩ := p_lt h
      replace h := p_gin h
      rcases p_ite h with h | h
      · skip
        cases h
        exact qsg10
      · skip
        cases h
        exact qsg10
theorem qfX12_best_129 {K : Sg → Prop} (hK : KWr K) {r48 : (Int32 × Int32 × Int64 × Sg × Lg) → Option (Int64 × Sg × Lg)} {r59 : (Int32 × Int32 × Int64 × Int32 × Sg × Lg) → Option (Int64 × Sg × Lg)} {v3 : Int32} {v4 : Int32} {v7 : Int32} {w0 : Int64} {w1 : Int64} {sg : Sg} {lg : Lg} {y : Int64 × Sg × Lg} (hr48 : ∀ z, r48 z = some y → K z.2.2.2.1 → K y.2.1) (hr59 : ∀ z, r59 z = some y → K z.2.2.2.2.1 → K y.2.1) (h : fX12_best_129 r48 r59 v3 v4 v7 w0 w1 sg lg = some y) (hk : K sg) : K y.2.1 := by
  unfold fX12_best_129 at h
  obtain ⟨x1, ex1, h⟩ := p_lt h
  obtain ⟨x2, ex2, h⟩ := p_lt h
  exact hr59 _ h hk
theorem qfX12_best_94 {K : Sg → Prop} (hK : KWr K) {r48 : (Int32 × Int32 × Int64 × Sg × Lg) → Option (Int64 × Sg × Lg)} {r59 : (Int32 × Int32 × Int64 × Int32 × Sg × Lg) → Option (Int64 × Sg × Lg)} {v3 : Int32} {v4 : Int32} {v5 : Int64} {v7 : Int32} {sg : Sg} {lg : Lg} {y : Int64 × Sg × Lg} (hr48 : ∀ z, r48 z = some y → K z.2.2.2.1 → K y.2.1) (hr59 : ∀ z, r59 z = some y → K z.2.2.2.2.1 → K y.2.1) (h : fX12_best_94 r48 r59 v3 v4 v5 v7 sg lg = some y) (hk : K sg) : K y.2.1 := by
  unfold fX12_best_94 at h
  obtain ⟨y1, sg2, lg3, clg3, h⟩ := p_bnd3 h
  have qsg2 : K sg2 := qfX12_isBest hK  clg3 hk
  rcases p_ite h with h | h
  · skip
    exact qfX12_best_129 hK hr48 hr59 h qsg2
  · skip
    obtain ⟨x6, ex6, h⟩ := p_lt h
    replace h := p_gin h
    exact qfX12_best_129 hK hr48 hr59 h qsg2
theorem qfX12_best_59 {K : Sg → Prop} (hK : KWr K) {r48 : (Int32 × Int32 × Int64 × Sg × Lg) → Option (Int64 × Sg × Lg)} {r59 : (Int32 × Int32 × Int64 × Int32 × Sg × Lg) → Option (Int64 × Sg × Lg)} {v3 : Int32} {v4 : Int32} {v5 : Int64} {v7 : Int32} {sg : Sg} {lg : Lg} {y : Int64 × Sg × Lg} (hr48 : ∀ z, r48 z = some y → K z.2.2.2.1 → K y.2.1) (hr59 : ∀ z, r59 z = some y → K z.2.2.2.2.1 → K y.2.1) (h : fX12_best_59 r48 r59 v3 v4 v5 v7 sg lg = some y) (hk : K sg) : K y.2.1 := by
  unfold fX12_best_59 at h
  obtain ⟨y1, sg2, lg3, clg3, h⟩ := p_bnd3 h
  have qsg2 : K sg2 := qfX12_isBest hK  clg3 hk
  rcases p_ite h with h | h
  · skip
    exact qfX12_best_94 hK hr48 hr59 h qsg2
  · skip
    obtain ⟨x6, ex6, h⟩ := p_lt h
    replace h := p_gin h
    rcases p_ite h with h | h
    · skip
      replace h := p_gin h
      obtain ⟨sg10, esg10, h⟩ := p_lt h
      have qsg10 : K sg10 := by rw [esg10]; exact hK _ _ _ _ rfl qsg2
      obtain ⟨x11, ex11, h⟩ := p_lt h
      obtain ⟨sg12, esg12, h⟩ := p_lt h
      have qsg12 : K sg12 := by rw [esg12]; exact hK _ _ _ _ rfl qsg10
      obtain ⟨x13, ex13, h⟩ := p_lt h
      exact hr48 _ h qsg12
    · skip
      exact qfX12_best_94 hK hr48 hr59 h qsg2
theorem qLX12_best_59 {K : Sg → Prop} (hK : KWr K) {r48 : (Int32 × Int32 × Int64 × Sg × Lg) → Option (Int64 × Sg × Lg)} {y : Int64 × Sg × Lg} (hr48 : ∀ z, r48 z = some y → K z.2.2.2.1 → K y.2.1) : ∀ z, LX12_best_59 r48 z = some y → K z.2.2.2.2.1 → K y.2.1 := by
  intro z h
  unfold LX12_best_59 at h
  exact loop_ind (fun rec z => fX12_best_59 r48 rec z.1 z.2.1 z.2.2.1 z.2.2.2.1 z.2.2.2.2.1 z.2.2.2.2.2) (y := y) (P := fun z => K z.2.2.2.2.1 → K y.2.1) (fun rec hrec z h hk => qfX12_best_59 hK hr48 hrec h hk) z h
theorem qfX12_best_48 {K : Sg → Prop} (hK : KWr K) {r48 : (Int32 × Int32 × Int64 × Sg × Lg) → Option (Int64 × Sg × Lg)} {v3 : Int32} {v4 : Int32} {v5 : Int64} {sg : Sg} {lg : Lg} {y : Int64 × Sg × Lg} (hr48 : ∀ z, r48 z = some y → K z.2.2.2.1 → K y.2.1) (h : fX12_best_48 r48 v3 v4 v5 sg lg = some y) (hk : K sg) : K y.2.1 := by
  unfold fX12_best_48 at h
  obtain ⟨y1, sg2, lg3, clg3, h⟩ := p_bnd3 h
  have qsg2 : K sg2 := qfX12_counting hK  clg3 hk
  rcases p_ite h with h | h
  · skip
    cases h
    exact qsg2
  · skip
    exact qLX12_best_59 hK hr48 _ h qsg2
theorem qLX12_best_48 {K : Sg → Prop} (hK : KWr K) {y : Int64 × Sg × Lg} : ∀ z, LX12_best_48 z = some y → K z.2.2.2.1 → K y.2.1 := by
  intro z h
  unfold LX12_best_48 at h
  exact loop_ind (fun rec z => fX12_best_48 rec z.1 z.2.1 z.2.2.1 z.2.2.2.1 z.2.2.2.2) (y := y) (P := fun z => K z.2.2.2.1 → K y.2.1) (fun rec hrec z h hk => qfX12_best_48 hK hrec h hk) z h
theorem qfX12_best {K : Sg → Prop} (hK : KWr K) {v1 : Int64} {sg : Sg} {lg : Lg} {y : Int64 × Sg × Lg} (h : fX12_best v1 sg lg = some y) (hk : K sg) : K y.2.1 := by
  unfold fX12_best at h
  rcases p_ite h with h | h
  · skip
    obtain ⟨sg2, lg3, clg3, h⟩ := p_bnd2 h
    have qsg2 : K sg2 := qfX12_fill hK  clg3 hk
    obtain ⟨y5, sg6, lg7, clg7, h⟩ := p_bnd3 h
    have qsg6 : K sg6 := qfX12_begun hK  clg7 qsg2
    replace h := p_gin h
    rcases p_ite h with h | h
    · skip
      obtain ⟨sg11, esg11, h⟩ := p_lt h
      have qsg11 : K sg11 := by rw [esg11]; exact hK _ _ _ _ rfl qsg6
      exact qLX12_best_48 hK  _ h qsg11
    · skip
      cases h
      exact qsg6
  · skip
    cases h
    exact hk
theorem qfX12_isWhole_33 {K : Sg → Prop} (hK : KWr K) {r33 : (Int32 × Int32 × Int32 × Sg × Lg) → Option (Int32 × Sg × Lg)} {v1 : Int32} {v2 : Int32} {v3 : Int32} {sg : Sg} {lg : Lg} {y : Int32 × Sg × Lg} (hr33 : ∀ z, r33 z = some y → K z.2.2.2.1 → K y.2.1) (h : fX12_isWhole_33 r33 v1 v2 v3 sg lg = some y) (hk : K sg) : K y.2.1 := by
  unfold fX12_isWhole_33 at h
  rcases p_ite h with h | h
  · skip
    rcases p_ite h with h | h
    · skip
      obtain ⟨y3, sg4, lg5, clg5, h⟩ := p_bnd3 h
      have qsg4 : K sg4 := qfX12_counting hK  clg5 hk
      rcases p_ite h with h | h
      · skip
        cases h
        exact qsg4
      · skip
        cases h
        exact qsg4
    · skip
      cases h
      exact hk
  · skip
    obtain ⟨x8, ex8, h⟩ := p_lt h
    obtain ⟨x9, ex9, h⟩ := p_lt h
    exact hr33 _ h hk
theorem qLX12_isWhole_33 {K : Sg → Prop} (hK : KWr K) {y : Int32 × Sg × Lg} : ∀ z, LX12_isWhole_33 z = some y → K z.2.2.2.1 → K y.2.1 := by
  intro z h
  unfold LX12_isWhole_33 at h
  exact loop_ind (fun rec z => fX12_isWhole_33 rec z.1 z.2.1 z.2.2.1 z.2.2.2.1 z.2.2.2.2) (y := y) (P := fun z => K z.2.2.2.1 → K y.2.1) (fun rec hrec z h hk => qfX12_isWhole_33 hK hrec h hk) z h
theorem qfX12_isWhole_4 {K : Sg → Prop} (hK : KWr K) {r4 : (Int32 × Int32 × Sg × Lg) → Option (Int32 × Sg × Lg)} {v1 : Int32} {v2 : Int32} {sg : Sg} {lg : Lg} {y : Int32 × Sg × Lg} (hr4 : ∀ z, r4 z = some y → K z.2.2.1 → K y.2.1) (h : fX12_isWhole_4 r4 v1 v2 sg lg = some y) (hk : K sg) : K y.2.1 := by
  unfold fX12_isWhole_4 at h
  rcases p_ite h with h | h
  · skip
    exact qLX12_isWhole_33 hK  _ h hk
  · skip
    replace h := p_gin h
    obtain ⟨x3, ex3, h⟩ := p_lt h
    obtain ⟨x4, ex4, h⟩ := p_lt h
    exact hr4 _ h hk
theorem qLX12_isWhole_4 {K : Sg → Prop} (hK : KWr K) {y : Int32 × Sg × Lg} : ∀ z, LX12_isWhole_4 z = some y → K z.2.2.1 → K y.2.1 := by
  intro z h
  unfold LX12_isWhole_4 at h
  exact loop_ind (fun rec z => fX12_isWhole_4 rec z.1 z.2.1 z.2.2.1 z.2.2.2) (y := y) (P := fun z => K z.2.2.1 → K y.2.1) (fun rec hrec z h hk => qfX12_isWhole_4 hK hrec h hk) z h
theorem qfX12_isWhole {K : Sg → Prop} (hK : KWr K) {sg : Sg} {lg : Lg} {y : Int32 × Sg × Lg} (h : fX12_isWhole sg lg = some y) (hk : K sg) : K y.2.1 := by
  unfold fX12_isWhole at h
  exact qLX12_isWhole_4 hK  _ h hk
theorem qfX12_number_105 {K : Sg → Prop} (hK : KWr K) {r28 : (Int32 × Int32 × Int64 × Int32 × Sg × Lg) → Option (Int64 × Sg × Lg)} {r60 : (Int32 × Int32 × Int64 × Int32 × Int32 × Sg × Lg) → Option (Int64 × Sg × Lg)} {v1 : Int32} {v2 : Int32} {v5 : Int32} {v6 : Int32} {w0 : Int64} {w1 : Int64} {sg : Sg} {lg : Lg} {y : Int64 × Sg × Lg} (hr28 : ∀ z, r28 z = some y → K z.2.2.2.2.1 → K y.2.1) (hr60 : ∀ z, r60 z = some y → K z.2.2.2.2.2.1 → K y.2.1) (h : fX12_number_105 r28 r60 v1 v2 v5 v6 w0 w1 sg lg = some y) (hk : K sg) : K y.2.1 := by
  unfold fX12_number_105 at h
  obtain ⟨x1, ex1, h⟩ := p_lt h
  obtain ⟨x2, ex2, h⟩ := p_lt h
  exact hr60 _ h hk
theorem qfX12_number_60 {K : Sg → Prop} (hK : KWr K) {r28 : (Int32 × Int32 × Int64 × Int32 × Sg × Lg) → Option (Int64 × Sg × Lg)} {r60 : (Int32 × Int32 × Int64 × Int32 × Int32 × Sg × Lg) → Option (Int64 × Sg × Lg)} {v1 : Int32} {v2 : Int32} {v3 : Int64} {v5 : Int32} {v6 : Int32} {sg : Sg} {lg : Lg} {y : Int64 × Sg × Lg} (hr28 : ∀ z, r28 z = some y → K z.2.2.2.2.1 → K y.2.1) (hr60 : ∀ z, r60 z = some y → K z.2.2.2.2.2.1 → K y.2.1) (h : fX12_number_60 r28 r60 v1 v2 v3 v5 v6 sg lg = some y) (hk : K sg) : K y.2.1 := by
  unfold fX12_number_60 at h
  replace h := p_gin h
  rcases p_ite h with h | h
  · skip
    replace h := p_gin h
    obtain ⟨x4, ex4, h⟩ := p_lt h
    replace h := p_gin h
    obtain ⟨x6, ex6, h⟩ := p_lt h
    obtain ⟨x7, ex7, h⟩ := p_lt h
    exact hr28 _ h hk
  · skip
    obtain ⟨y8, sg9, lg10, clg10, h⟩ := p_bnd3 h
    have qsg9 : K sg9 := qfX12_isBest hK  clg10 hk
    rcases p_ite h with h | h
    · skip
      exact qfX12_number_105 hK hr28 hr60 h qsg9
    · skip
      obtain ⟨x13, ex13, h⟩ := p_lt h
      replace h := p_gin h
      exact qfX12_number_105 hK hr28 hr60 h qsg9
theorem qLX12_number_60 {K : Sg → Prop} (hK : KWr K) {r28 : (Int32 × Int32 × Int64 × Int32 × Sg × Lg) → Option (Int64 × Sg × Lg)} {y : Int64 × Sg × Lg} (hr28 : ∀ z, r28 z = some y → K z.2.2.2.2.1 → K y.2.1) : ∀ z, LX12_number_60 r28 z = some y → K z.2.2.2.2.2.1 → K y.2.1 := by
  intro z h
  unfold LX12_number_60 at h
  exact loop_ind (fun rec z => fX12_number_60 r28 rec z.1 z.2.1 z.2.2.1 z.2.2.2.1 z.2.2.2.2.1 z.2.2.2.2.2.1 z.2.2.2.2.2.2) (y := y) (P := fun z => K z.2.2.2.2.2.1 → K y.2.1) (fun rec hrec z h hk => qfX12_number_60 hK hr28 hrec h hk) z h
theorem qfX12_number_28 {K : Sg → Prop} (hK : KWr K) {r28 : (Int32 × Int32 × Int64 × Int32 × Sg × Lg) → Option (Int64 × Sg × Lg)} {v1 : Int32} {v2 : Int32} {v3 : Int64} {v5 : Int32} {sg : Sg} {lg : Lg} {y : Int64 × Sg × Lg} (hr28 : ∀ z, r28 z = some y → K z.2.2.2.2.1 → K y.2.1) (h : fX12_number_28 r28 v1 v2 v3 v5 sg lg = some y) (hk : K sg) : K y.2.1 := by
  unfold fX12_number_28 at h
  rcases p_ite h with h | h
  · skip
    obtain ⟨y2, sg3, lg4, clg4, h⟩ := p_bnd3 h
    have qsg3 : K sg3 := qfX12_begun hK  clg4 hk
    replace h := p_gin h
    rcases p_ite h with h | h
    · skip
      cases h
      exact qsg3
    · skip
      cases h
      exact qsg3
  · skip
    replace h := p_gin h
    obtain ⟨y9, sg10, lg11, clg11, h⟩ := p_bnd3 h
    have qsg10 : K sg10 := qfX12_isBest hK  clg11 hk
    rcases p_ite h with h | h
    · skip
      cases h
      exact qsg10
    · skip
      exact qLX12_number_60 hK hr28 _ h qsg10
theorem qLX12_number_28 {K : Sg → Prop} (hK : KWr K) {y : Int64 × Sg × Lg} : ∀ z, LX12_number_28 z = some y → K z.2.2.2.2.1 → K y.2.1 := by
  intro z h
  unfold LX12_number_28 at h
  exact loop_ind (fun rec z => fX12_number_28 rec z.1 z.2.1 z.2.2.1 z.2.2.2.1 z.2.2.2.2.1 z.2.2.2.2.2) (y := y) (P := fun z => K z.2.2.2.2.1 → K y.2.1) (fun rec hrec z h hk => qfX12_number_28 hK hrec h hk) z h
theorem qfX12_number {K : Sg → Prop} (hK : KWr K) {sg : Sg} {lg : Lg} {y : Int64 × Sg × Lg} (h : fX12_number sg lg = some y) (hk : K sg) : K y.2.1 := by
  unfold fX12_number at h
  obtain ⟨y1, sg2, lg3, clg3, h⟩ := p_bnd3 h
  have qsg2 : K sg2 := qfX12_isWhole hK  clg3 hk
  rcases p_ite h with h | h
  · skip
    cases h
    exact qsg2
  · skip
    obtain ⟨sg6, lg7, clg7, h⟩ := p_bnd2 h
    have qsg6 : K sg6 := qfX12_fill hK  clg7 qsg2
    exact qLX12_number_28 hK  _ h qsg6
theorem qfX12_begin {K : Sg → Prop} (hK : KWr K) {sg : Sg} {lg : Lg} {y : Int64 × Sg × Lg} (h : fX12_begin sg lg = some y) (hk : K sg) : K y.2.1 := by
  unfold fX12_begin at h
  obtain ⟨x1, ex1, h⟩ := p_lt h
  obtain ⟨sg2, esg2, h⟩ := p_lt h
  have qsg2 : K sg2 := by rw [esg2]; exact hK _ _ _ _ rfl hk
  cases h
  exact qsg2
theorem qfX12_stands_31 {K : Sg → Prop} (hK : KWr K) {r4 : (Int32 × Int32 × Int32 × Sg × Lg) → Option (Int32 × Sg × Lg)} {v1 : Int32} {v3 : Int32} {w0 : Int32} {sg : Sg} {lg : Lg} {y : Int32 × Sg × Lg} (hr4 : ∀ z, r4 z = some y → K z.2.2.2.1 → K y.2.1) (h : fX12_stands_31 r4 v1 v3 w0 sg lg = some y) (hk : K sg) : K y.2.1 := by
  unfold fX12_stands_31 at h
  obtain ⟨x1, ex1, h⟩ := p_lt h
  exact hr4 _ h hk
theorem qfX12_stands_26 {K : Sg → Prop} (hK : KWr K) {r4 : (Int32 × Int32 × Int32 × Sg × Lg) → Option (Int32 × Sg × Lg)} {v1 : Int32} {v3 : Int32} {sg : Sg} {lg : Lg} {y : Int32 × Sg × Lg} (hr4 : ∀ z, r4 z = some y → K z.2.2.2.1 → K y.2.1) (h : fX12_stands_26 r4 v1 v3 sg lg = some y) (hk : K sg) : K y.2.1 := by
  unfold fX12_stands_26 at h
  exact qfX12_stands_31 hK hr4 h hk
theorem qfX12_stands_4 {K : Sg → Prop} (hK : KWr K) {r4 : (Int32 × Int32 × Int32 × Sg × Lg) → Option (Int32 × Sg × Lg)} {v1 : Int32} {v2 : Int32} {v3 : Int32} {sg : Sg} {lg : Lg} {y : Int32 × Sg × Lg} (hr4 : ∀ z, r4 z = some y → K z.2.2.2.1 → K y.2.1) (h : fX12_stands_4 r4 v1 v2 v3 sg lg = some y) (hk : K sg) : K y.2.1 := by
  unfold fX12_stands_4 at h
  rcases p_ite h with h | h
  · skip
    replace h := p_gz h
    cases h
    exact hk
  · skip
    rcases p_ite h with h | h
    · skip
      replace h := p_gin h
      rcases p_ite h with h | h
      · skip
        exact qfX12_stands_26 hK hr4 h hk
      · skip
        exact qfX12_stands_31 hK hr4 h hk
    · skip
      exact qfX12_stands_26 hK hr4 h hk
theorem qLX12_stands_4 {K : Sg → Prop} (hK : KWr K) {y : Int32 × Sg × Lg} : ∀ z, LX12_stands_4 z = some y → K z.2.2.2.1 → K y.2.1 := by
  intro z h
  unfold LX12_stands_4 at h
  exact loop_ind (fun rec z => fX12_stands_4 rec z.1 z.2.1 z.2.2.1 z.2.2.2.1 z.2.2.2.2) (y := y) (P := fun z => K z.2.2.2.1 → K y.2.1) (fun rec hrec z h hk => qfX12_stands_4 hK hrec h hk) z h
theorem qfX12_stands {K : Sg → Prop} (hK : KWr K) {v1 : Int32} {sg : Sg} {lg : Lg} {y : Int32 × Sg × Lg} (h : fX12_stands v1 sg lg = some y) (hk : K sg) : K y.2.1 := by
  unfold fX12_stands at h
  exact qLX12_stands_4 hK  _ h hk
theorem qfX12_stand {K : Sg → Prop} (hK : KWr K) {v1 : Int32} {sg : Sg} {lg : Lg} {y : Int64 × Sg × Lg} (h : fX12_stand v1 sg lg = some y) (hk : K sg) : K y.2.1 := by
  unfold fX12_stand at h
  obtain ⟨y1, sg2, lg3, clg3, h⟩ := p_bnd3 h
  have qsg2 : K sg2 := qfX12_isHen hK  clg3 hk
  rcases p_ite h with h | h
  · skip
    cases h
    exact qsg2
  · skip
    obtain ⟨y6, sg7, lg8, clg8, h⟩ := p_bnd3 h
    have qsg7 : K sg7 := qfX12_stands hK  clg8 qsg2
    rcases p_ite h with h | h
    · skip
      rcases p_ite h with h | h
      · skip
        cases h
        exact qsg7
      · skip
        replace h := p_gin h
        obtain ⟨sg13, esg13, h⟩ := p_lt h
        have qsg13 : K sg13 := by rw [esg13]; exact hK _ _ _ _ rfl qsg7
        obtain ⟨x14, ex14, h⟩ := p_lt h
        obtain ⟨sg15, esg15, h⟩ := p_lt h
        have qsg15 : K sg15 := by rw [esg15]; exact hK _ _ _ _ rfl qsg13
        cases h
        exact qsg15
    · skip
      cases h
      exact qsg7
/-! count, and all that is kept -/
section
variable {sx sm : Sg} {lm : Lg}
theorem cn_s (b : Nat → Bool) (n : Nat) : cn b (n + 1) = cn b n + (if b n then 1 else 0) := rfl
theorem cn_y {p : Nat → Prop} [DecidablePred p] {n : Nat} (h : p n) : cn (fun x => decide (p x)) (n + 1) = cn (fun x => decide (p x)) n + 1 := by rw [cn_s, if_pos (decide_eq_true h)]
theorem cn_z {p : Nat → Prop} [DecidablePred p] {n : Nat} (h : ¬ p n) : cn (fun x => decide (p x)) (n + 1) = cn (fun x => decide (p x)) n := by rw [cn_s, if_neg (fun z => h (of_decide_eq_true z)), Nat.add_zero]
set_option maxHeartbeats 4000000 in
theorem c_pens (hI : IC0 sx) : Ok (fun q => q.2 = sx ∧ q.1.toInt = (cn (fun h => decide (¬ sx 14 h = -1)) (sx 1 0).toInt.toNat : Int)) (fX2_penCount sx) := by
  have k0 : (0 : Int32).toInt = 0 := by decide
  have t2 := rdC1_0 hI
  unfold fX2_penCount LX2_penCount_4
  refine ok_loop (I := fun (q : Int32 × Int32 × Sg) => 0 ≤ q.2.1.toInt ∧ q.2.1.toInt ≤ (sx 1 0).toInt ∧ q.2.2 = sx ∧ q.1.toInt = (cn (fun h => decide (¬ sx 14 h = -1)) q.2.1.toInt.toNat : Int)) (m := fun (q : Int32 × Int32 × Sg) => (13 - q.2.1.toInt).toNat) _ ?_ ?_ _ ?_
  · intro q hq
    have := hq.1
    show (13 - q.2.1.toInt).toNat < 10000
    omega
  · intro rec q hq hrec
    obtain ⟨v1, v2, t⟩ := q
    replace hq : 0 ≤ v2.toInt ∧ v2.toInt ≤ (sx 1 0).toInt ∧ t = sx ∧ v1.toInt = (cn (fun h => decide (¬ sx 14 h = -1)) v2.toInt.toNat : Int) := hq
    obtain ⟨b0, b1, e1, hs⟩ := hq
    rw [e1]
    show Ok _ (fX2_penCount_4 rec v1 v2 sx)
    unfold fX2_penCount_4
    have mx := cn_max (fun h => decide (¬ sx 14 h = -1)) v2.toInt.toNat
    have c2 := cl_i b0
    have go : ∀ w : Int32, v2.toInt < (sx 1 0).toInt → w.toInt = (cn (fun h => decide (¬ sx 14 h = -1)) (v2.toInt.toNat + 1) : Int) → Ok (fun q => q.2 = sx ∧ q.1.toInt = (cn (fun h => decide (¬ sx 14 h = -1)) (sx 1 0).toInt.toNat : Int)) (fX2_penCount_25 rec w v2 sx) := by
      intro w g0 g1
      unfold fX2_penCount_25
      refine ok_lt (fun x e => ?_)
      replace e : x.toInt = v2.toInt + 1 := by rw [e]; exact add_c 1 (by decide) (by omega) (by omega)
      refine hrec (w, x, sx) ⟨by show 0 ≤ x.toInt; omega, by show x.toInt ≤ _; omega, rfl, ?_⟩ (show (13 - x.toInt).toNat < (13 - v2.toInt).toNat by omega)
      show w.toInt = _
      rw [show x.toInt.toNat = v2.toInt.toNat + 1 by omega]
      exact g1
    refine ok_ite (fun c => ?_) (fun c => ?_)
    · replace c := i_le.mp c
      refine ok_some ⟨rfl, ?_⟩
      show v1.toInt = _
      rw [hs, show v2.toInt.toNat = (sx 1 0).toInt.toNat by omega]
    · replace c := i_nle.mp c
      refine ok_gin (by omega) (by omega) ?_
      rw [show v2.toNatClampNeg = v2.toInt.toNat by omega]
      refine ok_ite (fun d => ?_) (fun d => ?_)
      · refine go v1 c ?_
        rw [cn_z (p := fun h => ¬ sx 14 h = -1) (fun z => z d)]
        omega
      · refine ok_lt (fun x4 g4 => ?_)
        have a := add_c (a := v1) (b := (1 : Int32)) 1 (by decide) (by omega) (by omega)
        rw [← g4] at a
        refine go x4 c ?_
        rw [cn_y (p := fun h => ¬ sx 14 h = -1) d]
        omega
  · refine ⟨by show 0 ≤ (0 : Int32).toInt; omega, by show (0 : Int32).toInt ≤ _; omega, rfl, ?_⟩
    show (0 : Int32).toInt = (cn _ (0 : Int32).toInt.toNat : Int)
    rw [k0]
    rfl
set_option maxHeartbeats 4000000 in
theorem m_pens (hI : IC0 sx) (hF : FEq sx (sm 1)) (sv : SV (sm 1)) : Ok (fun q => q.2 = (sm, lm) ∧ q.1.toInt = (cn (fun h => decide (¬ sx 14 h = -1)) (sx 1 0).toInt.toNat : Int)) (LX12_count_173 ((0 : Int64), (0 : Int32), sm, lm)) := by
  have k0 : (0 : Int32).toInt = 0 := by decide
  have km : (-1 : Int32).toInt = -1 := by decide
  have j0 : (0 : Int64).toInt = 0 := by decide
  have j1 : (1 : Int64).toInt = 1 := by decide
  have s12 := sv.2.1
  have s0 := sv.1
  have eh : (sm 1 0).toInt = (sx 1 0).toInt := by rw [hF.1]
  unfold LX12_count_173
  refine ok_loop (I := fun (q : Int64 × Int32 × Sg × Lg) => 0 ≤ q.2.1.toInt ∧ q.2.1.toInt ≤ (sm 1 0).toInt ∧ q.2.2 = (sm, lm) ∧ q.1.toInt = (cn (fun h => decide (¬ sx 14 h = -1)) q.2.1.toInt.toNat : Int)) (m := fun (q : Int64 × Int32 × Sg × Lg) => (13 - q.2.1.toInt).toNat) _ ?_ ?_ _ ?_
  · intro q hq
    have := hq.1
    show (13 - q.2.1.toInt).toNat < 10000
    omega
  · intro rec q hq hrec
    obtain ⟨v2, v4, t, l⟩ := q
    replace hq : 0 ≤ v4.toInt ∧ v4.toInt ≤ (sm 1 0).toInt ∧ (t, l) = (sm, lm) ∧ v2.toInt = (cn (fun h => decide (¬ sx 14 h = -1)) v4.toInt.toNat : Int) := hq
    obtain ⟨b0, b1, e1, hs⟩ := hq
    obtain ⟨z1, z2⟩ := Prod.mk.inj e1
    rw [z1, z2]
    show Ok _ (fX12_count_173 rec v2 v4 sm lm)
    unfold fX12_count_173
    refine bnd3_of hens_is ?_
    have mx := cn_max (fun h => decide (¬ sx 14 h = -1)) v4.toInt.toNat
    refine ok_ite (fun c => ?_) (fun c => ?_)
    · replace c := i_le.mp c
      refine ok_some ⟨rfl, ?_⟩
      show v2.toInt = _
      rw [hs, show v4.toInt.toNat = (sx 1 0).toInt.toNat by omega]
    · replace c := i_nle.mp c
      have a := add_i (a := (37 : Int32)) (b := v4) (by have : (37 : Int32).toInt = 37 := by decide
                                                        omega) (by have : (37 : Int32).toInt = 37 := by decide
                                                                   omega)
      have k37 : (37 : Int32).toInt = 37 := by decide
      have ca := cl_i (i := (37 : Int32) + v4) (by omega)
      have wd : fX12_width v4 sm lm = some (sx 14 v4.toInt.toNat, sm, lm) := by
        unfold fX12_width
        show gin ((37 : Int32) + v4) 193 (some ((sm 1 ((37 : Int32) + v4).toNatClampNeg), sm, lm)) = _
        have row := (hF.2 v4.toInt.toNat (by omega)).2.2.2.1
        rw [gin_in (vin_i (by omega) (by omega)), show ((37 : Int32) + v4).toNatClampNeg = 37 + v4.toInt.toNat by omega, row]
      refine bnd3_of wd ?_
      have go : ∀ w0 : Int64, 0 ≤ w0.toInt → w0.toInt ≤ 1 → w0.toInt + (cn (fun h => decide (¬ sx 14 h = -1)) v4.toInt.toNat : Int) = (cn (fun h => decide (¬ sx 14 h = -1)) (v4.toInt.toNat + 1) : Int) → Ok (fun q => q.2 = (sm, lm) ∧ q.1.toInt = (cn (fun h => decide (¬ sx 14 h = -1)) (sx 1 0).toInt.toNat : Int)) (fX12_count_197 rec v4 w0 v2 sm lm) := by
        intro w0 w1 w2 w3
        unfold fX12_count_197
        refine ok_lt (fun x1 g1 => ?_)
        have a' := add64b (a := v2) (b := w0) (by omega) (by omega)
        rw [← g1] at a'
        refine ok_lt (fun x e => ?_)
        replace e : x.toInt = v4.toInt + 1 := by rw [e]; exact add_c 1 (by decide) (by omega) (by omega)
        refine hrec (x1, x, sm, lm) ⟨by show 0 ≤ x.toInt; omega, by show x.toInt ≤ _; omega, rfl, ?_⟩ (show (13 - x.toInt).toNat < (13 - v4.toInt).toNat by omega)
        show x1.toInt = _
        rw [show x.toInt.toNat = v4.toInt.toNat + 1 by omega]
        omega
      have r14 := rdC14 hI (j := v4.toInt.toNat)
      refine ok_ite (fun d => ?_) (fun d => ?_)
      · replace d := i_lt.mp d
        rw [k0] at d
        have e : sx 14 v4.toInt.toNat = -1 := Int32.toInt_inj.mp (by omega)
        refine go 0 (by omega) (by omega) ?_
        rw [cn_z (p := fun h => ¬ sx 14 h = -1) (fun z => z e)]
        omega
      · replace d := i_nlt.mp d
        rw [k0] at d
        have e : ¬ sx 14 v4.toInt.toNat = -1 := fun z => by rw [z] at d; omega
        refine go 1 (by omega) (by omega) ?_
        rw [cn_y (p := fun h => ¬ sx 14 h = -1) e]
        omega
  · refine ⟨by show 0 ≤ (0 : Int32).toInt; omega, by show (0 : Int32).toInt ≤ _; omega, rfl, ?_⟩
    show (0 : Int64).toInt = (cn _ (0 : Int32).toInt.toNat : Int)
    rw [k0, j0]
    rfl
/-- all pecks: by slots and by hens -/
theorem all_eq {A : Sg} (hM : MC A) : allS A (rk A 12) (rk A 12) = allH A 12 := by
  have r12 := rk_le A 12
  unfold allS allH
  refine (SF_rk (sx := A) (fun j hj hc => ⟨fun _ => trivial, fun _ => ⟨hj, hc⟩⟩) (fun j hj hc z => by rw [z.2] at hc; cases hc) (fun a ha ca _ => ?_) 12 (Nat.le_refl _)).symm
  unfold rowH rowS
  refine SF_rk (sx := A) (fun j hj hc => ⟨fun _ => trivial, fun _ => ⟨hj, hc⟩⟩) (fun j hj hc z => by rw [z.2] at hc; cases hc) (fun b hb cb' _ => ?_) 12 (Nat.le_refl _)
  have la := rk_lt ca ha
  have lb := rk_lt cb' hb
  have oa := ofn_n ha
  have ob := ofn_n hb
  have cla := cl_i (i := Int32.ofNat a) (by omega)
  have clb := cl_i (i := Int32.ofNat b) (by omega)
  rw [hM.2.2.2.1 _ _ la lb, (hM.2.1 _ ha ca).1, (hM.2.1 _ hb cb').1, show (Int32.ofNat a).toNatClampNeg = a by omega, show (Int32.ofNat b).toNatClampNeg = b by omega]
theorem allH_cg {s r : Sg} (ec : Ct r = Ct s) (e15 : r 15 = s 15) (m : Nat) : allH r m = allH s m := by
  unfold allH rowH
  rw [ec, e15]
end
set_option maxHeartbeats 4000000 in
theorem val_count {K : Sg → Sg → Lg → Prop} {n : Nat} {v : Int32} {sx sm sx' sm' : Sg} {lm lm' : Lg} {r r' : Int64} (h : Rel K n sx sm lm) (hJ : JC sx) (hd : HD sx sm) (hR : RKd sx sm lm) (e1 : fX11_count v sx = some (r, sx')) (e2 : fX12_count v sm lm = some (r', sm', lm')) : r = r' := by
  obtain ⟨hI, hM, hF, -⟩ := h
  have sv := hM.2.2
  unfold fX11_count at e1
  unfold fX12_count at e2
  by_cases c0 : v = (0 : Int32)
  · rw [if_pos c0] at e1 e2
    rw [hens_is, bnd3_s] at e2
    cases e1
    cases e2
    rw [hF.1.1]
  rw [if_neg c0] at e1 e2
  by_cases c1 : v = (1 : Int32)
  · rw [if_pos c1] at e1 e2
    obtain ⟨s3, d3, f1⟩ := p_bnd1 e1
    obtain ⟨i3, j3, m3, st, f3⟩ := ok_at (j_gather hI hJ) d3
    cases f1
    obtain ⟨-, g⟩ := ok_at (m_count1 hI.1 hF.1 sv) e2
    replace g : r'.toInt = (rk sx 12 : Int) := g
    refine Int64.toInt_inj.mp ?_
    rw [Int32.toInt_toInt64, m3.1, g]
    rw [show rk sx' 12 = rk sx 12 from rk_cg (fun x => cnb_cg (f3 1 (by omega)) (f3 11 (by omega)) (f3 13 (by omega)) x) 12]
  rw [if_neg c1] at e1 e2
  by_cases c2 : v = (2 : Int32)
  · rw [if_pos c2] at e1 e2
    cases e1
    cases e2
    rw [hd.1.1]
  rw [if_neg c2] at e1 e2
  by_cases c3 : v = (3 : Int32)
  · rw [if_pos c3] at e1 e2
    cases e1
    cases e2
    have : sx 2 0 = sm 0 2 := by
      have := hF.2.1
      exact Int32.toInt_inj.mp (by omega)
    rw [this]
  rw [if_neg c3] at e1 e2
  by_cases c4 : v = (4 : Int32)
  · rw [if_pos c4] at e1 e2
    cases e1
    cases e2
    obtain ⟨k, a, b, -⟩ := hR
    rw [show sx 8 1 = sm 0 17 from Int32.toInt_inj.mp (by omega)]
  rw [if_neg c4] at e1 e2
  by_cases c5 : v = (5 : Int32)
  · rw [if_pos c5] at e1 e2
    obtain ⟨s9, d9, f1⟩ := p_bnd1 e1
    obtain ⟨i9, j9, m9, st, f9⟩ := ok_at (j_gather hI hJ) d9
    obtain ⟨y, s12, d12, f2⟩ := p_bnd2 f1
    obtain ⟨-, g1⟩ := ok_at (c_allPecks (A := s9) (n := rk s9 12) m9.1 (rk_le s9 12)) d12
    replace g1 : y = Int64.ofInt (allS s9 (rk s9 12) (rk s9 12)) := g1
    obtain ⟨-, g2⟩ := ok_at (m_count5 hI.1 hF.1 sv) e2
    replace g2 : r' = Int64.ofInt (allH sx 12) := g2
    cases f2
    rw [g1, g2, all_eq m9, allH_cg (s := sx) (Ct_cg (by rw [f9 1 (by omega)]) (f9 11 (by omega)) (f9 13 (by omega))) (f9 15 (by omega))]
  rw [if_neg c5] at e1 e2
  by_cases c6 : v = (6 : Int32)
  · rw [if_pos c6] at e1 e2
    obtain ⟨y, s16, d16, f1⟩ := p_bnd2 e1
    obtain ⟨-, g1⟩ := ok_at (c_pens hI.1) d16
    replace g1 : y.toInt = _ := g1
    obtain ⟨-, g2⟩ := ok_at (m_pens hI.1 hF.1 sv) e2
    replace g2 : r'.toInt = _ := g2
    cases f1
    refine Int64.toInt_inj.mp ?_
    rw [Int32.toInt_toInt64, g1, g2]
  rw [if_neg c6] at e1 e2
  cases e1
  cases e2
  rfl
/-! with the rings kept -/
def KRg (sx sm : Sg) (lm : Lg) : Prop := JC sx ∧ NSH sm ∧ HD sx sm ∧ GK sx ∧ AK sx ∧ RKd sx sm lm
theorem KRgF : KF KRg := fun sx sm sx' sm' lm hI hJ st same s3 s0 nn => by
  have h := KSuF sx sm sx' sm' lm hI ⟨hJ.1, hJ.2.1, hJ.2.2.1, hJ.2.2.2.1, hJ.2.2.2.2.1⟩ st same s3 s0 nn
  refine ⟨h.1, h.2.1, h.2.2.1, h.2.2.2.1, h.2.2.2.2, RKd_cg hJ.2.2.2.2.2 ?_ (same 37 (by decide) (by decide) (by omega) (by omega)) (same 38 (by decide) (by decide) (by omega) (by omega)) (same 39 (by decide) (by decide) (by omega) (by omega)) (s0 17 (by decide)) rfl⟩
  rw [same 8 (by decide) (by decide) (by omega) (by omega)]
theorem krg0 : KRg sgC0 sgM0 lg0 := by
  refine ⟨ksu0.1, ksu0.2.1, ksu0.2.2.1, ksu0.2.2.2.1, ksu0.2.2.2.2, 0, by decide, by decide, by decide, fun j hj => absurd hj (Nat.not_lt_zero _)⟩
theorem kwr_17 {c : Int32} : KWr (fun s => s 0 17 = c) := by
  intro sg k j v w h
  show up2 sg k j v 0 17 = c
  unfold wfr at w
  by_cases z : k = 0 ∧ j = 17
  · rw [z.1, z.2] at w; cases w
  · rw [up2_o (by omega)]; exact h
def Rx (sx sx' : Sg) : Prop := sx' 8 = sx 8 ∧ sx' 37 = sx 37 ∧ sx' 38 = sx 38 ∧ sx' 39 = sx 39
def Rm (sm sm' : Sg) (lm lm' : Lg) : Prop := sm' 0 17 = sm 0 17 ∧ lm' 12 = lm 12
theorem rk_fr {sx sm sx' sm' : Sg} {lm lm' : Lg} (h : RKd sx sm lm) (a : Rx sx sx') (b : Rm sm sm' lm lm') : RKd sx' sm' lm' := RKd_cg h (by rw [a.1]) a.2.1 a.2.2.1 a.2.2.2 b.1 b.2
theorem rx_l {M : List Nat} {sx sx' : Sg} {r : Int64} (h : PLC M sx (r, sx')) (hM : ∀ k ∈ M, ¬ (k = 8 ∨ k = 37 ∨ k = 38 ∨ k = 39)) : Rx sx sx' := by
  have f : ∀ k, (k = 8 ∨ k = 37 ∨ k = 38 ∨ k = 39) → sx' k = sx k := fun k hk => h.2 k (fun z => hM k z hk)
  exact ⟨f 8 (by omega), f 37 (by omega), f 38 (by omega), f 39 (by omega)⟩
theorem rx_u {sx sx' : Sg} {r : Int64} (h : PUlC sx (r, sx')) : Rx sx sx' := by
  have e : sx' = sx := h
  rw [e]
  exact ⟨rfl, rfl, rfl, rfl⟩
theorem rm_l {M : List Nat} {sm sm' : Sg} {lm lm' : Lg} {r : Int64} (h : PLM M sm lm (r, sm', lm')) (h0 : 0 ∉ M) (h12 : 12 ∉ M) : Rm sm sm' lm lm' := ⟨congrFun (h.2.1 0 h0) 17, h.2.2.1 12 h12⟩
theorem rm_q {M : List Nat} {sm sm' : Sg} {lm lm' : Lg} {r : Int64} (h : PLM M sm lm (r, sm', lm')) (h12 : 12 ∉ M) (e : sm' 0 17 = sm 0 17) : Rm sm sm' lm lm' := ⟨e, h.2.2.1 12 h12⟩
theorem rm_u {sm sm' : Sg} {lm lm' : Lg} {r : Int64} (h : PUlM sm lm (r, sm', lm')) : Rm sm sm' lm lm' := by
  have e : (sm', lm') = (sm, lm) := h
  cases e
  exact ⟨rfl, rfl⟩
