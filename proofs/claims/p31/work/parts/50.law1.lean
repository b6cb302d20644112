/-! the law's own rows: two worlds side by side -/
section LX
variable {p : Program} {l : Launch} {e : Env} {R : Room} {s : State} {m : MethodId} {args : Array Value} {below : List Frame} {meth : Method} {c : Code} {H : Heap} {locs : List Loc} {cells slots : Nat} {Q : State → Prop}
variable {cc : ByteArray} {pc : Nat} {ls : Array Slot} {rest st : List Value} {D : va_G} {cl : List vw_C} {tys : List (ClassId × FieldType)} {A : Nat → Prop}
variable {Z Z2 : Zt} {T T2 : Nat → ClassId} {ad ad2 : Nat → Nat} {sg sg' sg2 : Sg} {lg lg' lg2 : Lg} {b : Bool} {nw : List Cond} {nL : Nat} {own : String} {Ts : List Cond} {ret ret' : Option FieldType}
variable {y : MethodName} {bytes : ByteArray} {maxL mc ms n index : Nat} {ws : List Cond} {rm : Room} {Pad : (Nat → Nat) → Prop} {As : List Value}
theorem r_cVlF (C : Cx p s m args meth c cc nL own Ts ret D cl tys A b nw) (hw : WS Z D cl T ad sg lg A s.heap H locs) (k : Nat) (hk : k < Z.1) {ci : Nat} {fl : List (Option Nat)} (hs : Z.2.2.1 k = (ci + 5, fl)) {q : vw_C} (hc : cl[ci]? = some q) {r : Int64} (hM : Met l y ws rm (PreZ Z D cl T tys ad sg lg b nw (.ref (ad k) :: As) H.size) (QL Z D cl T tys (va_A (zwd Z T ad sg lg) H.size) Pad r sg' lg') mc ms (va_A (zwd Z T ad sg lg) H.size))
    (cw : CallW R s args own q.1 index y bytes maxL ret' ws rm mc ms n) (hn : As.length = n) (hsize : ls.size = nL) (hst : st = As.reverse ++ .ref (ad k) :: rest) (hW : (rest.map fun v => v.category).sum ≤ 8) (hdg : decode cc pc = .ok (.invokevirtual index, 3)) (hf : cells + mc ≤ R.cells ∧ slots + ms ≤ R.slots)
    (kk : ∀ (ad' : Nat → Nat) (H1 : Heap) (locs1 : List Loc), Pad ad' → WS Z D cl T ad' sg' lg' A s.heap H1 locs1 → (∀ q : Nat, q < H.size → ¬ va_A (zwd Z T ad sg lg) H.size q → H1[q]? = H[q]?) → (∀ i, i < Z.1 → va_A (zwd Z T ad sg lg) H.size (ad' i)) → W p l e R s m args below meth c H1 locs1 (cells + mc) (slots + ms) Q (F0 m (pc + 3) ls (.long r :: rest))) : W p l e R s m args below meth c H locs cells slots Q (F0 m pc ls st) := by
  have hA := C.2.2.2.2.1
  refine va_calll (va_runV (As := As) (rest := rest) C.1 hM cw ⟨FrameBlind.Z, va_recv C.2.2.2.1 hw.1 hc (by rw [zwd_get hk, zce_o hs]), fun U hU hW => hw.pre C _ U hU hW⟩ rfl hn hsize hst (lv_room hW) hdg hf) hw.2.2 (fun q _ h => hw.free hA q h) (hw.free hA) (fun r2 ad' t H1 locs1 ht hvm hr hB hz1 hk1 hS => ?_)
  subst hr
  obtain ⟨h1, h2⟩ := hw.back hA ht hB hS
  exact kk ad' H1 locs1 h1 h2 hk1 (fun i hi => hB.2.2.2.2 i _ (zwd_get hi))
theorem zwd_in {q : Nat} {k : Nat} {x : va_E} (h : (zwd Z T ad sg lg)[k]? = some (q, x)) : k < Z.1 ∧ q = ad k := by
  have hk : k < Z.1 := by
    have := (List.getElem?_eq_some_iff.mp h).1
    simpa [zwd] using this
  rw [zwd_get hk] at h
  exact ⟨hk, (congrArg Prod.fst (Option.some.inj h)).symm⟩
theorem WS.keep (h2 : WS Z2 D cl T2 ad2 sg2 lg2 A s.heap H locs) {H1 : Heap} {locs1 : List Loc} (hS1 : va_S A s.heap H1 locs1) (hfr : ∀ q : Nat, q < H.size → ¬ va_A (zwd Z T ad sg lg) H.size q → H1[q]? = H[q]?) (hdis : ∀ i j, i < Z.1 → j < Z2.1 → ad i ≠ ad2 j) : WS Z2 D cl T2 ad2 sg2 lg2 A s.heap H1 locs1 := by
  refine ⟨h2.1.kept (fun k q hq => ?_), h2.2.1, hS1⟩
  have hlt := (h2.1 k q hq).lt
  obtain ⟨hk, he⟩ := zwd_in (q := q.1) (x := q.2) hq
  refine hfr q.1 hlt (fun hA => ?_)
  rcases hA with ⟨k', x, hx⟩ | hx
  · obtain ⟨hk', he'⟩ := zwd_in hx
    exact hdis k' k hk' hk (he'.symm.trans he)
  · omega
theorem dis_new (h2 : WS Z2 D cl T2 ad2 sg2 lg2 A s.heap H locs) (hdis : ∀ i j, i < Z.1 → j < Z2.1 → ad i ≠ ad2 j) {ad' : Nat → Nat} (hin : ∀ i, i < Z.1 → va_A (zwd Z T ad sg lg) H.size (ad' i)) : ∀ i j, i < Z.1 → j < Z2.1 → ad' i ≠ ad2 j := by
  intro i j hi hj e
  have hlt := (h2.1 j _ (zwd_get hj)).lt
  rcases hin i hi with ⟨k', x, hx⟩ | hx
  · obtain ⟨hk', he'⟩ := zwd_in hx
    exact hdis k' j hk' hj (he'.symm.trans e)
  · rw [e] at hx
    exact absurd hlt (Nat.not_lt.mpr hx)
end LX
def lg0 : Lg := fun _ _ => 0
abbrev AL (s : State) : Nat → Prop := fun q => s.heap.size ≤ q
def LW (D : va_G) (T : Nat → ClassId) (a g am : Nat → Nat) (sx sm : Sg) (lm : Lg) (s : State) (H : Heap) (locs : List Loc) : Prop :=
  WS ZC D vwCl T (adr a g) sx lg0 (AL s) s.heap H locs ∧ WS ZM D vwCl T am sm lm (AL s) s.heap H locs ∧ ∀ i j, i < ZC.1 → j < ZM.1 → adr a g i ≠ am j
/-- what a call must do: both answer, alike where it is compared -/
def OpL (eq : Bool) (fx : Option (Int64 × Sg)) (fm : Option (Int64 × Sg × Lg)) (R' : Sg → Sg → Lg → Prop) : Prop := ∃ (r r' : Int64) (sx sm : Sg) (lm : Lg), fx = some (r, sx) ∧ fm = some (r', sm, lm) ∧ (eq = true → r = r') ∧ R' sx sm lm
theorem law_in {L i : Nat} (hL : L < 2 ^ 30) (hi : i < 2 ^ 30) (h : ¬ Int32.ofNat L - 5 < nI i) : i + 5 ≤ L := by
  rw [Int32.lt_iff_toInt_lt, show (5 : Int32) = nI 5 from rfl, show Int32.ofNat L = nI L from rfl, pk_sub_toInt hL (by decide), nI_toInt (by omega)] at h
  omega
theorem law_ix {L i k : Nat} (hL : L < 2 ^ 30) (h : i + 5 ≤ L) (hk : k < 5) : vp_in (nI i + nI k) L := by
  rw [nI_add]
  exact vp_in_nI (by omega) (by omega)
