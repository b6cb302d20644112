/-! words of the functions that the walks lay -/
def lt {α β : Type} (e : α) (k : α → β) : β := k e
theorem lt_get {α β : Type} {e : α} {k : α → Option β} {y : β} (h : lt e k = some y) : ∀ v, v = e → k v = some y := fun v hv => by subst hv; exact h
def gin {α : Type} (i : Int32) (n : Nat) (x : Option α) : Option α := if i < 0 ∨ n ≤ i.toNatClampNeg then none else x
theorem gin_some {α : Type} {i : Int32} {n : Nat} {x : Option α} {y : α} (h : gin i n x = some y) : vp_in i n ∧ x = some y := by
  unfold gin at h
  by_cases c : i < 0 ∨ n ≤ i.toNatClampNeg
  · rw [if_pos c] at h; cases h
  · rw [if_neg c] at h; exact ⟨c, h⟩
theorem gin_in {α : Type} {i : Int32} {n : Nat} {x : Option α} (h : vp_in i n) : gin i n x = x := if_neg h
def gz {α : Type} (v : Int32) (x : Option α) : Option α := if v &&& 1 = v then x else none
theorem gz_some {α : Type} {v : Int32} {x : Option α} {y : α} (h : gz v x = some y) : v &&& 1 = v ∧ x = some y := by
  unfold gz at h
  by_cases c : v &&& 1 = v
  · rw [if_pos c] at h; exact ⟨c, h⟩
  · rw [if_neg c] at h; cases h
def gne {α : Type} (v : Int32) (x : Option α) : Option α := if v = 0 then none else x
theorem gne_some {α : Type} {v : Int32} {x : Option α} {y : α} (h : gne v x = some y) : ¬ v = 0 ∧ x = some y := by
  unfold gne at h
  by_cases c : v = 0
  · rw [if_pos c] at h; cases h
  · rw [if_neg c] at h; exact ⟨c, h⟩
def gcp {α : Type} (sp dp n : Int32) (n0 n1 : Nat) (x : Option α) : Option α := if (sp < 0 ∨ dp < 0 ∨ n < 0) ∨ n0 < sp.toNatClampNeg + n.toNatClampNeg ∨ n1 < dp.toNatClampNeg + n.toNatClampNeg then none else x
theorem gcp_some {α : Type} {sp dp n : Int32} {n0 n1 : Nat} {x : Option α} {y : α} (h : gcp sp dp n n0 n1 x = some y) : ¬ ((sp < 0 ∨ dp < 0 ∨ n < 0) ∨ n0 < sp.toNatClampNeg + n.toNatClampNeg ∨ n1 < dp.toNatClampNeg + n.toNatClampNeg) ∧ x = some y := by
  unfold gcp at h
  by_cases c : (sp < 0 ∨ dp < 0 ∨ n < 0) ∨ n0 < sp.toNatClampNeg + n.toNatClampNeg ∨ n1 < dp.toNatClampNeg + n.toNatClampNeg
  · rw [if_pos c] at h; cases h
  · rw [if_neg c] at h; exact ⟨c, h⟩
def gnw {α : Type} (n : Int32) (x : Option α) : Option α := if n < 0 ∨ 4096 < n.toNatClampNeg then none else x
theorem gnw_some {α : Type} {n : Int32} {x : Option α} {y : α} (h : gnw n x = some y) : (¬ n < 0 ∧ n.toNatClampNeg ≤ 4096) ∧ x = some y := by
  unfold gnw at h
  by_cases c : n < 0 ∨ 4096 < n.toNatClampNeg
  · rw [if_pos c] at h; cases h
  · rw [if_neg c] at h; exact ⟨⟨fun z => c (Or.inl z), Nat.not_lt.mp fun z => c (Or.inr z)⟩, h⟩
def bnd1 {α β : Type} (o : Option α) (k : α → Option β) : Option β := match o with
  | none => none
  | some a => k a
def bnd2 {α γ β : Type} (o : Option (α × γ)) (k : α → γ → Option β) : Option β := match o with
  | none => none
  | some a => k a.1 a.2
def bnd3 {α γ δ β : Type} (o : Option (α × γ × δ)) (k : α → γ → δ → Option β) : Option β := match o with
  | none => none
  | some a => k a.1 a.2.1 a.2.2
theorem bnd1_some {α β : Type} {o : Option α} {k : α → Option β} {y : β} (h : bnd1 o k = some y) : ∃ a, o = some a ∧ k a = some y := by
  cases o with
  | none => cases h
  | some a => exact ⟨a, rfl, h⟩
theorem bnd2_some {α γ β : Type} {o : Option (α × γ)} {k : α → γ → Option β} {y : β} (h : bnd2 o k = some y) : ∃ a b, o = some (a, b) ∧ k a b = some y := by
  cases o with
  | none => cases h
  | some a => exact ⟨a.1, a.2, rfl, h⟩
theorem bnd3_some {α γ δ β : Type} {o : Option (α × γ × δ)} {k : α → γ → δ → Option β} {y : β} (h : bnd3 o k = some y) : ∃ a b c, o = some (a, b, c) ∧ k a b c = some y := by
  cases o with
  | none => cases h
  | some a => exact ⟨a.1, a.2.1, a.2.2, rfl, h⟩
theorem ite_t {α : Type} {c : Prop} {_ : Decidable c} {a b x : α} (h : (if c then a else b) = x) (hc : c) : a = x := by rw [if_pos hc] at h; exact h
theorem ite_f {α : Type} {c : Prop} {_ : Decidable c} {a b x : α} (h : (if c then a else b) = x) (hc : ¬ c) : b = x := by rw [if_neg hc] at h; exact h
/-- a loop: at most n turns -/
def itr {σ ρ : Type} (body : (σ → Option ρ) → σ → Option ρ) : Nat → σ → Option ρ
  | 0, _ => none
  | n + 1, s => body (itr body n) s
theorem itr_ind {σ ρ : Type} {body : (σ → Option ρ) → σ → Option ρ} {y : ρ} {P : σ → Prop} (h : ∀ rec, (∀ s, rec s = some y → P s) → ∀ s, body rec s = some y → P s) : ∀ n s, itr body n s = some y → P s
  | 0, _, e => by cases e
  | n + 1, s, e => h (itr body n) (itr_ind h n) s e
def fuel : Nat := 10000
/-- a row that is copied -/
def cp2 (f : Sg) (k1 k2 sp dp n : Nat) : Sg := fun a => if a = k2 then va_cpy (f k1) (f a) sp dp n else f a
theorem cp2_s (f : Sg) (k1 k2 sp dp n : Nat) : cp2 f k1 k2 sp dp n k2 = va_cpy (f k1) (f k2) sp dp n := if_pos rfl
theorem cp2_n {f : Sg} {k1 k2 sp dp n a : Nat} (h : a ≠ k2) : cp2 f k1 k2 sp dp n a = f a := if_neg h
/-- a row k that is new: n zeros; its length stands in 99 -/
def nw2 (f : Sg) (k : Nat) (n : Int32) : Sg := fun a => if a = k then (fun _ => 0) else if a = 99 then upd (f a) k n else f a
section ZX
variable {p : Program} {l : Launch} {e : Env} {R : Room} {s : State} {m : MethodId} {args : Array Value} {below : List Frame} {meth : Method} {c : Code} {H : Heap} {locs : List Loc} {cells slots : Nat} {Q : State → Prop}
variable {cc : ByteArray} {pc : Nat} {ls : Array Slot} {rest : List Value} {D : va_G} {cl : List vw_C} {tys : List (ClassId × FieldType)} {A : Nat → Prop} {H0 : Heap}
variable {Z : Zt} {T : Nat → ClassId} {ad : Nat → Nat} {sg : Sg} {lg : Lg}
def ZokC (Z : Zt) : Prop := ∀ (sg : Sg) (k1 k2 sp dp n j : Nat), k2 < Z.1 → Z.2.2.2 (cp2 sg k1 k2 sp dp n) j = Z.2.2.2 sg j
theorem r_copy (hZ : ZokC Z) (hx : p.tables.exec = Jvm.exec) (hb : c.code = cc) (hml : c.maxLocals = ls.size) {own : String} {index : Nat} (hown : s.vm.findClass own = some m.cls) (hlink : (Cond.methodLink own index arraycopyName).before args s = true) (hnat : (Cond.native arraycopyName).before args s = true) (hstat : (Cond.static arraycopyName).before args s = true) (hini : (Cond.initialized "java/lang/System").before args s = true)
    (hK : va_K D cl tys s) (hw : WS Z D cl T ad sg lg A H0 H locs) (k1 k2 t0 : Nat) (hk1 : k1 < Z.1) (hk2 : k2 < Z.1) (hs1 : (Z.2.2.1 k1).1 = 0) (hs2 : (Z.2.2.1 k2).1 = 0) (ht : tys[t0]? = some (T 0, .int)) {n1 n2 : Nat} (hn1 : Z.2.2.2 sg k1 = n1) (hn2 : Z.2.2.2 sg k2 = n2)
    {sp dp n : Int32} (hc : ¬ ((sp < 0 ∨ dp < 0 ∨ n < 0) ∨ n1 < sp.toNatClampNeg + n.toNatClampNeg ∨ n2 < dp.toNatClampNeg + n.toNatClampNeg)) (hframes : 1 ≤ R.frames) (hlocals : (rest.map fun v => v.category).sum + (nativeFrameWords "java/lang/System" "arraycopy" 5 + 11) ≤ R.locals) (hdg : decode cc pc = .ok (.invokestatic index, 3))
    (kk : ∀ (H1 : Heap) (locs1 : List Loc) (sg1 : Sg), sg1 = cp2 sg k1 k2 sp.toNatClampNeg dp.toNatClampNeg n.toNatClampNeg → WS Z D cl T ad sg1 lg A H0 H1 locs1 → W p l e R s m args below meth c H1 locs1 cells slots Q (F0 m (pc + 3) ls rest)) : W p l e R s m args below meth c H locs cells slots Q (F0 m pc ls (.int n :: .int dp :: .ref (ad k2) :: .int sp :: .ref (ad k1) :: rest)) := by
  subst hn1
  subst hn2
  refine va_copyi hx hb hml hown hlink hnat hstat hini hK hw.1 hw.2.1 hw.2.2 k1 k2 t0 t0 (by rw [zwd_get hk1, zce_i hs1]) (by rw [zwd_get hk2, zce_i hs2]) ht ht rfl (fun z => hc (Or.inl (Or.inl z))) (fun z => hc (Or.inl (Or.inr (Or.inl z)))) (fun z => hc (Or.inl (Or.inr (Or.inr z)))) (Nat.not_lt.mp fun z => hc (Or.inr (Or.inl z))) (Nat.not_lt.mp fun z => hc (Or.inr (Or.inr z))) (fun _ _ => rfl) hframes hlocals hdg (fun H1 locs1 hP hD hS => kk H1 locs1 _ rfl ?_)
  have he := zwd_set (Z := Z) (T := T) (ad := ad) (sg := sg) (sg' := cp2 sg k1 k2 sp.toNatClampNeg dp.toNatClampNeg n.toNatClampNeg) (lg := lg) (lg' := lg) (k := k2) _ (by rw [zce_i hs2, hZ _ _ _ _ _ _ _ hk2, cp2_s]) (fun j hj => by unfold zce; rw [hZ _ _ _ _ _ _ _ hk2, cp2_n hj])
  rw [he] at hP hD
  exact ⟨hP, hD, hS⟩
end ZX
section ZN
variable {p : Program} {l : Launch} {e : Env} {R : Room} {s : State} {m : MethodId} {args : Array Value} {below : List Frame} {meth : Method} {c : Code} {H : Heap} {locs : List Loc} {cells slots : Nat} {Q : State → Prop}
variable {cc : ByteArray} {pc : Nat} {ls : Array Slot} {rest : List Value} {D : va_G} {cl : List vw_C} {tys : List (ClassId × FieldType)} {A : Nat → Prop} {H0 : Heap} {ws : va_W}
theorem r_newa (hx : p.tables.exec = Jvm.exec) (hb : c.code = cc) {atype : ArrayType} (harr : (Cond.arrayClass (newarray.typeOf atype)).before args s = true) {ty : FieldType} (hty : newarray.typeOf atype = ty) (hp : ∀ C, ty ≠ .object C) (ti : Nat) {Tc : ClassId} (ht : tys[ti]? = some (Tc, ty)) (hK : va_K D cl tys s) (hP : va_P D cl ws H) (hD : va_D A ws) (hS : va_S A H0 H locs) (hA : ∀ q, H0.size ≤ q → A q)
    {n : Int32} {a0 : vp_A} {N' : Nat} (ha : ∀ cA : ClassId, vp_cell cA a0 = arrV cA N' (fun _ => defaultValue ty)) (hn : ¬ n < 0) (hN : n.toNatClampNeg = N') (hbytes : N' * componentBytes ty ≤ 536870912) (hcells : cells + 1 ≤ R.cells) (hslots : slots + N' ≤ R.slots) (hdg : decode cc pc = .ok (.newarray atype, 2))
    (kk : ∀ (q : Nat) (H1 : Heap), va_P D cl (ws ++ [(q, .inl (Tc, a0))]) H1 → va_D A (ws ++ [(q, .inl (Tc, a0))]) → va_S A H0 H1 locs →
      W p l e R s m args below meth c H1 locs (cells + 1) (slots + N') Q (F0 m (pc + 2) ls (.ref q :: rest))) : W p l e R s m args below meth c H locs cells slots Q (F0 m pc ls (.int n :: rest)) := by
  refine va_newa hx hb harr hty hK hP hD hS hA ha hn hN hbytes hcells hslots hdg (fun q cA H1 hK1 hP1 hD1 hS1 => ?_)
  have h1 := (hK1.2 tys.length (cA, ty) (by simp)).2
  have h2 := (hK.2 ti _ ht).2
  have : cA = Tc := by
    cases ty with
    | object C => exact absurd rfl (hp C)
    | _ => exact Option.some.inj (h1.symm.trans h2)
  subst this
  exact kk q H1 hP1 hD1 hS1
theorem r_newq (hx : p.tables.exec = Jvm.exec) (hb : c.code = cc) {own C : String} {index : Nat} (hown : s.vm.findClass own = some m.cls) (hclink : (Cond.classLink own index C).before args s = true) (hover : va_AO C s) (ti : Nat) {Tc : ClassId} (ht : tys[ti]? = some (Tc, .object C)) (hK : va_K D cl tys s) (hP : va_P D cl ws H) (hD : va_D A ws) (hS : va_S A H0 H locs) (hA : ∀ q, H0.size ≤ q → A q)
    {n : Int32} {N' : Nat} (hn : ¬ n < 0) (hN : n.toNatClampNeg = N') (hbytes : N' * 4 ≤ 536870912) (hcells : cells + 1 ≤ R.cells) (hslots : slots + N' ≤ R.slots) (hdg : decode cc pc = .ok (.anewarray index, 3))
    (kk : ∀ (q : Nat) (H1 : Heap), va_P D cl (ws ++ [(q, .inl (Tc, N', .inr (.inr (.inr (.inr (fun _ => none))))))]) H1 → va_D A (ws ++ [(q, .inl (Tc, N', .inr (.inr (.inr (.inr (fun _ => none))))))]) → va_S A H0 H1 locs →
      W p l e R s m args below meth c H1 locs (cells + 1) (slots + N') Q (F0 m (pc + 3) ls (.ref q :: rest))) : W p l e R s m args below meth c H locs cells slots Q (F0 m pc ls (.int n :: rest)) := by
  refine va_newq hx hb hown hclink hover hK hP hD hS hA hn hN hbytes hcells hslots hdg (fun q cA H1 hK1 hP1 hD1 hS1 => ?_)
  obtain ⟨_, _, -, -, -, h1⟩ := (hK1.2 tys.length (cA, .object C) (by simp)).2
  obtain ⟨_, _, -, -, -, h2⟩ := (hK.2 ti _ ht).2
  have : cA = Tc := Option.some.inj (h1.symm.trans h2)
  subst this
  exact kk q H1 hP1 hD1 hS1
theorem q_ext (hP : va_P D cl ws H) (k : Nat) {a n : Nat} {cA : ClassId} {f g : Nat → Option Nat} (hk : ws[k]? = some (a, .inl (cA, n, .inr (.inr (.inr (.inr f)))))) (hfg : ∀ j, j < n → f j = g j) : va_P D cl (ws.set k (a, .inl (cA, n, .inr (.inr (.inr (.inr g)))))) H := by
  intro i q hq
  rw [List.getElem?_set] at hq
  by_cases hi : k = i
  · subst hi
    have hl : k < ws.length := (List.getElem?_eq_some_iff.mp hk).1
    rw [if_pos rfl, if_pos hl] at hq
    cases hq
    have h1 := hP k _ hk
    show H[a]? = some (vp_cell cA (n, .inr (.inr (.inr (.inr g)))))
    rw [show vp_cell cA (n, .inr (.inr (.inr (.inr g)))) = vp_cell cA (n, .inr (.inr (.inr (.inr f)))) from ?_]
    · exact h1
    · show arrV cA n (fun j => va_rf (g j)) = arrV cA n (fun j => va_rf (f j))
      unfold arrV
      congr 2
      funext j
      show va_rf (g j.val) = va_rf (f j.val)
      rw [hfg j.val j.isLt]
  · rw [if_neg hi] at hq
    exact hP i q hq
end ZN
