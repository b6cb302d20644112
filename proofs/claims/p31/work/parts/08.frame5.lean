/-- the plan's world out of a list of cells, by places -/
theorem zwd_of {Z : Zt} {T : Nat → ClassId} {ad : Nat → Nat} {sg : Sg} {lg : Lg} {D : va_G} {cl : List vw_C} {A : Nat → Prop} {ws : va_W} {H : Heap} (pl : List Nat) (hl : pl.length = Z.1) (hn : va_nd pl = true) (h : ∀ k, k < Z.1 → ws[pl.getD k 0]? = some (ad k, zce Z T ad sg lg k)) (hP : va_P D cl ws H) (hD : va_D A ws) : va_P D cl (zwd Z T ad sg lg) H ∧ va_D A (zwd Z T ad sg lg) := by
  have hg : ∀ (k : Nat) (q : Nat × va_E), (zwd Z T ad sg lg)[k]? = some q → k < Z.1 ∧ ws[pl.getD k 0]? = some q := by
    intro k q hq
    have hk : k < Z.1 := by
      have := (List.getElem?_eq_some_iff.mp hq).1
      simpa [zwd] using this
    refine ⟨hk, ?_⟩
    rw [zwd_get hk] at hq
    rw [h k hk]
    exact hq
  refine ⟨fun k q hq => hP _ q (hg k q hq).2, fun i j p q hp hq e => ?_, fun k q hq => hD.2 _ q (hg k q hq).2⟩
  obtain ⟨hi, h1⟩ := hg i p hp
  obtain ⟨hj, h2⟩ := hg j q hq
  have e2 := hD.1 _ _ _ _ h1 h2 e
  refine va_nd_inj pl hn i j (pl.getD i 0) ?_ ?_
  · rw [List.getD_eq_getElem?_getD, List.getElem?_eq_getElem (by omega)]; rfl
  · rw [e2, List.getD_eq_getElem?_getD, List.getElem?_eq_getElem (by omega)]; rfl
/-- a loop of at most 'fuel' turns -/
def loop {σ ρ : Type} (body : (σ → Option ρ) → σ → Option ρ) : σ → Option ρ := itr body fuel
theorem loop_ind {σ ρ : Type} (body : (σ → Option ρ) → σ → Option ρ) {y : ρ} {P : σ → Prop} (h : ∀ rec, (∀ s, rec s = some y → P s) → ∀ s, body rec s = some y → P s) : ∀ s, loop body s = some y → P s := fun s e => itr_ind h fuel s e
