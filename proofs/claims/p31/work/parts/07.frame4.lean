/-! a row of Orders that is made anew -/
theorem zfv_cong {ad ad' : Nat → Nat} {f : Nat → Int32} : ∀ (l : List (Option Nat)) (j : Nat), (∀ t, some t ∈ l → ad' t = ad t) → zfv ad' f j l = zfv ad f j l
  | [], _, _ => rfl
  | none :: r, j, h => by
    simp only [zfv]
    rw [zfv_cong r (j + 1) (fun t ht => h t (List.mem_cons_of_mem _ ht))]
  | some t :: r, j, h => by
    simp only [zfv]
    rw [zfv_cong r (j + 1) (fun t ht => h t (List.mem_cons_of_mem _ ht)), h t List.mem_cons_self]
theorem zce_cong {Z : Zt} {T : Nat → ClassId} {ad ad' : Nat → Nat} {sg sg' : Sg} {lg : Lg} {i : Nat} (h1 : ∀ t, some t ∈ (Z.2.2.1 i).2 → ad' t = ad t) (h2 : ∀ j, ad' (Z.2.1 + j % 8) = ad (Z.2.1 + j % 8)) (h3 : sg' i = sg i) (h4 : Z.2.2.2 sg' i = Z.2.2.2 sg i) : zce Z T ad' sg' lg i = zce Z T ad sg lg i := by
  unfold zce
  rw [h3, h4, zfv_cong _ _ h1]
  have : (fun j => some (ad' (Z.2.1 + j % 8))) = (fun j => some (ad (Z.2.1 + j % 8))) := by
    funext j; rw [h2 j]
  rw [this]
theorem adr_lt {a g : Nat → Nat} {k : Nat} (h : k < 63) : adr a g k = a k := by
  unfold adr
  rw [show Nat.blt k 63 = true from Nat.ble_eq_true_of_le h]
  rfl
theorem adr_ge {a g : Nat → Nat} {k : Nat} (h : 63 ≤ k) : adr a g k = g k := by
  unfold adr
  rw [show Nat.blt k 63 = false from ?_]
  · rfl
  · cases hb : Nat.blt k 63 with
    | false => rfl
    | true => exact absurd (Nat.le_of_ble_eq_true hb) (by omega)
theorem lfC_lt {sg : Sg} {k : Nat} (h : k < 63) : lfC sg k = lnLC.getD k 0 := by
  unfold lfC
  rw [show Nat.blt k 63 = true from Nat.ble_eq_true_of_le h]
  rfl
theorem lfC_ge {sg : Sg} {k : Nat} (h : 63 ≤ k) : lfC sg k = (sg 99 k).toNatClampNeg := by
  unfold lfC
  rw [show Nat.blt k 63 = false from ?_]
  · rfl
  · cases hb : Nat.blt k 63 with
    | false => rfl
    | true => exact absurd (Nat.le_of_ble_eq_true hb) (by omega)
theorem scC_refs : ∀ i, i < 67 → i ≠ 4 → ∀ o ∈ (scC i).2, ∀ t, t < 67 → o = some t → t < 63 := by decide +kernel
theorem scC_refs2 : ∀ i, i < 67 → ∀ o ∈ (scC i).2, (o.getD 0) < 67 := by decide +kernel
section ZG
variable {p : Program} {l : Launch} {e : Env} {R : Room} {s : State} {m : MethodId} {args : Array Value} {below : List Frame} {meth : Method} {c : Code} {H : Heap} {locs : List Loc} {cells slots : Nat} {Q : State → Prop}
variable {cc : ByteArray} {pc : Nat} {ls : Array Slot} {rest : List Value} {D : va_G} {A : Nat → Prop} {T : Nat → ClassId} {a g : Nat → Nat} {sg : Sg} {lg : Lg} {Ts : List Cond}
theorem r_newG (hx : p.tables.exec = Jvm.exec) (hb : c.code = cc) {index : Nat} (hts : ∀ w ∈ Ts, w.before args s = true) (hin : ∀ w ∈ u_ws RX9 TX9 11, w ∈ Ts) (hown : s.vm.findClass RX9 = some m.cls) (hK : va_K D vwCl (tysC T) s) (hw : WS ZC D vwCl T (adr a g) sg lg A s.heap H locs) (hA : ∀ q, s.heap.size ≤ q → A q)
    {atype : ArrayType} (harr : (Cond.arrayClass (newarray.typeOf atype)).before args s = true) {ty : FieldType} (hty : newarray.typeOf atype = ty) (hno : ∀ C, ty ≠ .object C) (kt ti : Nat) (hti : (tysC T)[ti]? = some (T kt, ty)) (hdef : defaultValue ty = .int 0) (hbt : componentBytes ty ≤ 8)
    (k j : Nat) (hk63 : 63 ≤ k) (hk67 : k < 67) (hj : j < 11) (hfin : (TX9 j).2.2.2 = false) (hdesc : parseFieldDescriptor (TX9 j).2.2.1 = some (.array ty)) (hkind : ∀ (T : Nat → ClassId) (ad : Nat → Nat) (sg : Sg) (lg : Lg), zce ZC T ad sg lg k = .inl (T kt, lfC sg k, .inl (sg k)))
    (hfld : ∀ (g' : Nat → Nat) (sg' : Sg) (q : Nat), sg' 4 = sg 4 → (∀ i, 63 ≤ i → i ≠ k → g' i = g i) → g' k = q → zfv (adr a g') (sg' 4) 0 (scC 4).2 = (zfv (adr a g) (sg 4) 0 (scC 4).2).set j (.ref q))
    {n : Int32} (hn : ¬ n < 0 ∧ n.toNatClampNeg ≤ 4096) (hlink : (Cond.fieldLink RX9 index "PeckYard$Orders" (TX9 j).2.1 (TX9 j).2.2.1).before args s = true) (hsame : ∀ x, s.fieldFound? (TX9 j).1 (TX9 j).2.1 (TX9 j).2.2.1 = some x → s.fieldFound? "PeckYard$Orders" (TX9 j).2.1 (TX9 j).2.2.1 = some x)
    (hd1 : decode cc pc = .ok (.newarray atype, 2)) (hd2 : decode cc (pc + 2) = .ok (.putfield index, 3)) (hcells : cells + 1 ≤ R.cells) (hslots : slots + 4096 ≤ R.slots)
    (kk : ∀ (g' : Nat → Nat) (H1 : Heap) (locs1 : List Loc) (sg1 : Sg), sg1 = nw2 sg k n → WS ZC D vwCl T (adr a g') sg1 lg A s.heap H1 locs1 → W p l e R s m args below meth c H1 locs1 (cells + 1) (slots + n.toNatClampNeg) Q (F0 m (pc + 5) ls rest)) :
    W p l e R s m args below meth c H locs cells slots Q (F0 m pc ls (.int n :: .ref (adr a g 4) :: rest)) := by
  refine r_newa (tys := tysC T) (a0 := (n.toNatClampNeg, .inl (fun _ => 0))) hx hb harr hty hno ti hti hK hw.1 hw.2.1 hw.2.2 hA (N' := n.toNatClampNeg) (fun cA => ?_) hn.1 rfl (Nat.le_trans (Nat.mul_le_mul hn.2 hbt) (by decide)) hcells (Nat.le_trans (Nat.add_le_add_left hn.2 _) hslots) hd1 (fun q H1 hP hD hS => ?_)
  · rw [hdef]; rfl
  have hlen : (zwd ZC T (adr a g) sg lg).length = 67 := by simp [zwd, ZC]
  have h4 : (zwd ZC T (adr a g) sg lg ++ ([(q, .inl (T kt, n.toNatClampNeg, .inl (fun _ => 0)))] : va_W))[4]? = some (adr a g 4, .inr (9, zfv (adr a g) (sg 4) 0 (scC 4).2)) := by
    rw [List.getElem?_append_left (by rw [hlen]; decide), zwd_get (show 4 < ZC.1 by decide)]
    rfl
  refine va_put (D := D) (ci := 9) (v := .ref q) (ty := .array ty) (C := RX9) (T := TX9) (N := 11) hx hb hts hin tyX9 tyX9_ok nmX9 hown hK hP hD hS 4 h4 rfl j hj hlink hsame hfin hdesc rfl rfl (by rw [zfv_len]; exact hj) hd2 (fun H2 locs2 hP2 hD2 hS2 => ?_)
  refine kk (fun i => if i = k then q else g i) H2 locs2 _ rfl ?_
  have hg1 : ∀ i, 63 ≤ i → i ≠ k → (fun i => if i = k then q else g i) i = g i := fun i _ h => if_neg h
  have hg2 : (fun i => if i = k then q else g i) k = q := if_pos rfl
  generalize (fun i => if i = k then q else g i) = g' at hg1 hg2 ⊢
  -- each cell of the new plan is a cell of what we have
  have key : ∀ i, i < 67 → ((zwd ZC T (adr a g) sg lg ++ ([(q, .inl (T kt, n.toNatClampNeg, .inl (fun _ => 0)))] : va_W)).set 4 (adr a g 4, .inr (9, (zfv (adr a g) (sg 4) 0 (scC 4).2).set j (.ref q))))[if i = k then 67 else i]? = some (adr a g' i, zce ZC T (adr a g') (nw2 sg k n) lg i) := by
    intro i hi
    by_cases hik : i = k
    · subst hik
      rw [if_pos rfl, List.getElem?_set_ne (by decide), List.getElem?_append_right (by rw [hlen]; decide), hlen, hkind, adr_ge hk63, hg2, lfC_ge hk63]
      have e1 : nw2 sg i n i = fun _ => 0 := if_pos rfl
      have e2 : nw2 sg i n 99 i = n := by
        unfold nw2
        rw [if_neg (show (99 : Nat) ≠ i by omega), if_pos rfl]
        simp [upd]
      rw [e1, e2]
      rfl
    · rw [if_neg hik]
      have hs : nw2 sg k n i = sg i := by
        unfold nw2
        rw [if_neg hik, if_neg (show i ≠ 99 by omega)]
      have had : adr a g' i = adr a g i := by
        by_cases h63 : i < 63
        · rw [adr_lt h63, adr_lt h63]
        · rw [adr_ge (by omega), adr_ge (by omega)]
          exact hg1 i (by omega) hik
      by_cases hi4 : i = 4
      · subst hi4
        rw [List.getElem?_set_self (by simp [hlen]), had]
        refine congrArg some (congrArg (Prod.mk _) ?_)
        have : zce ZC T (adr a g') (nw2 sg k n) lg 4 = .inr (9, zfv (adr a g') (nw2 sg k n 4) 0 (scC 4).2) := rfl
        rw [this, hfld g' (nw2 sg k n) q hs hg1 hg2]
      · rw [List.getElem?_set_ne (fun z => hi4 z.symm), List.getElem?_append_left (by rw [hlen]; exact hi), zwd_get (show i < ZC.1 from hi), had]
        refine congrArg some (congrArg (Prod.mk _) ?_)
        refine (zce_cong (fun t ht => ?_) (fun j => ?_) hs ?_).symm
        · have h67 := scC_refs2 i hi _ ht
          have h63 := scC_refs i hi hi4 _ ht t h67 rfl
          rw [adr_lt h63, adr_lt h63]
        · have : j % 8 < 8 := Nat.mod_lt _ (by decide)
          rw [adr_lt (show ZC.2.1 + j % 8 < 63 by show 47 + j % 8 < 63; omega), adr_lt (show ZC.2.1 + j % 8 < 63 by show 47 + j % 8 < 63; omega)]
        · show lfC (nw2 sg k n) i = lfC sg i
          by_cases h63 : i < 63
          · rw [lfC_lt h63, lfC_lt h63]
          · rw [lfC_ge (by omega), lfC_ge (by omega)]
            unfold nw2
            rw [if_neg (show (99 : Nat) ≠ k by omega), if_pos rfl]
            simp [upd, hik]
  have hget : ∀ (i : Nat) (x : Nat × va_E), (zwd ZC T (adr a g') (nw2 sg k n) lg)[i]? = some x → i < 67 ∧ ((zwd ZC T (adr a g) sg lg ++ ([(q, .inl (T kt, n.toNatClampNeg, .inl (fun _ => 0)))] : va_W)).set 4 (adr a g 4, .inr (9, (zfv (adr a g) (sg 4) 0 (scC 4).2).set j (.ref q))))[if i = k then 67 else i]? = some x := by
    intro i x hx1
    have hi : i < 67 := by
      have := (List.getElem?_eq_some_iff.mp hx1).1
      simpa [zwd, ZC] using this
    refine ⟨hi, ?_⟩
    rw [key i hi, ← zwd_get (show i < ZC.1 from hi)]
    exact hx1
  refine ⟨fun i x hx1 => hP2 _ x (hget i x hx1).2, ⟨fun i i' x x' h1 h2 hxx => ?_, fun i x h1 => hD2.2 _ x (hget i x h1).2⟩, hS2⟩
  obtain ⟨a1, b1⟩ := hget i x h1
  obtain ⟨a2, b2⟩ := hget i' x' h2
  have := hD2.1 _ _ _ _ b1 b2 hxx
  by_cases c1 : i = k <;> by_cases c2 : i' = k
  · omega
  · rw [if_pos c1, if_neg c2] at this; omega
  · rw [if_neg c1, if_pos c2] at this; omega
  · rw [if_neg c1, if_neg c2] at this; exact this
end ZG
section ZG2
variable {p : Program} {l : Launch} {e : Env} {R : Room} {s : State} {m : MethodId} {args : Array Value} {below : List Frame} {meth : Method} {c : Code} {H : Heap} {locs : List Loc} {cells slots : Nat} {Q : State → Prop}
variable {cc : ByteArray} {pc : Nat} {ls : Array Slot} {rest : List Value} {D : va_G} {A : Nat → Prop} {T : Nat → ClassId} {a g : Nat → Nat} {sg : Sg} {lg : Lg} {Ts : List Cond}
theorem r_new63 (hx : p.tables.exec = Jvm.exec) (hb : c.code = cc) {index : Nat} (hts : ∀ w ∈ Ts, w.before args s = true) (hin : ∀ w ∈ u_ws RX9 TX9 11, w ∈ Ts) (hown : s.vm.findClass RX9 = some m.cls) (hK : va_K D vwCl (tysC T) s) (hw : WS ZC D vwCl T (adr a g) sg lg A s.heap H locs) (hA : ∀ q, s.heap.size ≤ q → A q)
    (harr : (Cond.arrayClass .int).before args s = true) {n : Int32} (hn : ¬ n < 0 ∧ n.toNatClampNeg ≤ 4096) (hlink : (Cond.fieldLink RX9 index "PeckYard$Orders" (TX9 6).2.1 (TX9 6).2.2.1).before args s = true)
    (hd1 : decode cc pc = .ok (.newarray .int, 2)) (hd2 : decode cc (pc + 2) = .ok (.putfield index, 3)) (hcells : cells + 1 ≤ R.cells) (hslots : slots + 4096 ≤ R.slots)
    (kk : ∀ (g' : Nat → Nat) (H1 : Heap) (locs1 : List Loc) (sg1 : Sg), sg1 = nw2 sg 63 n → WS ZC D vwCl T (adr a g') sg1 lg A s.heap H1 locs1 → W p l e R s m args below meth c H1 locs1 (cells + 1) (slots + n.toNatClampNeg) Q (F0 m (pc + 5) ls rest)) :
    W p l e R s m args below meth c H locs cells slots Q (F0 m pc ls (.int n :: .ref (adr a g 4) :: rest)) :=
  r_newG (atype := .int) (ty := .int) hx hb hts hin hown hK hw hA harr rfl (fun _ h => by cases h) 0 0 rfl rfl (by decide) 63 6 (by decide) (by decide) (by decide) rfl (by decide +kernel) (fun _ _ _ _ => rfl) (fun g' sg' q h1 h2 h3 => by
    rw [h1]
    show [Value.ref (a 3), Value.ref (a 10), Value.int (sg 4 2), Value.int (sg 4 3), Value.int (sg 4 4), Value.int (sg 4 5), Value.ref (g' 63), Value.ref (g' 64), Value.ref (g' 65), Value.ref (g' 66), Value.ref (a 24)] = _
    rw [h3, h2 64 (by decide) (by decide), h2 65 (by decide) (by decide), h2 66 (by decide) (by decide)]
    rfl) hn hlink (fun _ h9 => h9) hd1 hd2 hcells hslots kk
theorem r_new64 (hx : p.tables.exec = Jvm.exec) (hb : c.code = cc) {index : Nat} (hts : ∀ w ∈ Ts, w.before args s = true) (hin : ∀ w ∈ u_ws RX9 TX9 11, w ∈ Ts) (hown : s.vm.findClass RX9 = some m.cls) (hK : va_K D vwCl (tysC T) s) (hw : WS ZC D vwCl T (adr a g) sg lg A s.heap H locs) (hA : ∀ q, s.heap.size ≤ q → A q)
    (harr : (Cond.arrayClass .int).before args s = true) {n : Int32} (hn : ¬ n < 0 ∧ n.toNatClampNeg ≤ 4096) (hlink : (Cond.fieldLink RX9 index "PeckYard$Orders" (TX9 7).2.1 (TX9 7).2.2.1).before args s = true)
    (hd1 : decode cc pc = .ok (.newarray .int, 2)) (hd2 : decode cc (pc + 2) = .ok (.putfield index, 3)) (hcells : cells + 1 ≤ R.cells) (hslots : slots + 4096 ≤ R.slots)
    (kk : ∀ (g' : Nat → Nat) (H1 : Heap) (locs1 : List Loc) (sg1 : Sg), sg1 = nw2 sg 64 n → WS ZC D vwCl T (adr a g') sg1 lg A s.heap H1 locs1 → W p l e R s m args below meth c H1 locs1 (cells + 1) (slots + n.toNatClampNeg) Q (F0 m (pc + 5) ls rest)) :
    W p l e R s m args below meth c H locs cells slots Q (F0 m pc ls (.int n :: .ref (adr a g 4) :: rest)) :=
  r_newG (atype := .int) (ty := .int) hx hb hts hin hown hK hw hA harr rfl (fun _ h => by cases h) 0 0 rfl rfl (by decide) 64 7 (by decide) (by decide) (by decide) rfl (by decide +kernel) (fun _ _ _ _ => rfl) (fun g' sg' q h1 h2 h3 => by
    rw [h1]
    show [Value.ref (a 3), Value.ref (a 10), Value.int (sg 4 2), Value.int (sg 4 3), Value.int (sg 4 4), Value.int (sg 4 5), Value.ref (g' 63), Value.ref (g' 64), Value.ref (g' 65), Value.ref (g' 66), Value.ref (a 24)] = _
    rw [h3, h2 63 (by decide) (by decide), h2 65 (by decide) (by decide), h2 66 (by decide) (by decide)]
    rfl) hn hlink (fun _ h9 => h9) hd1 hd2 hcells hslots kk
theorem r_new65 (hx : p.tables.exec = Jvm.exec) (hb : c.code = cc) {index : Nat} (hts : ∀ w ∈ Ts, w.before args s = true) (hin : ∀ w ∈ u_ws RX9 TX9 11, w ∈ Ts) (hown : s.vm.findClass RX9 = some m.cls) (hK : va_K D vwCl (tysC T) s) (hw : WS ZC D vwCl T (adr a g) sg lg A s.heap H locs) (hA : ∀ q, s.heap.size ≤ q → A q)
    (harr : (Cond.arrayClass .int).before args s = true) {n : Int32} (hn : ¬ n < 0 ∧ n.toNatClampNeg ≤ 4096) (hlink : (Cond.fieldLink RX9 index "PeckYard$Orders" (TX9 8).2.1 (TX9 8).2.2.1).before args s = true)
    (hd1 : decode cc pc = .ok (.newarray .int, 2)) (hd2 : decode cc (pc + 2) = .ok (.putfield index, 3)) (hcells : cells + 1 ≤ R.cells) (hslots : slots + 4096 ≤ R.slots)
    (kk : ∀ (g' : Nat → Nat) (H1 : Heap) (locs1 : List Loc) (sg1 : Sg), sg1 = nw2 sg 65 n → WS ZC D vwCl T (adr a g') sg1 lg A s.heap H1 locs1 → W p l e R s m args below meth c H1 locs1 (cells + 1) (slots + n.toNatClampNeg) Q (F0 m (pc + 5) ls rest)) :
    W p l e R s m args below meth c H locs cells slots Q (F0 m pc ls (.int n :: .ref (adr a g 4) :: rest)) :=
  r_newG (atype := .int) (ty := .int) hx hb hts hin hown hK hw hA harr rfl (fun _ h => by cases h) 0 0 rfl rfl (by decide) 65 8 (by decide) (by decide) (by decide) rfl (by decide +kernel) (fun _ _ _ _ => rfl) (fun g' sg' q h1 h2 h3 => by
    rw [h1]
    show [Value.ref (a 3), Value.ref (a 10), Value.int (sg 4 2), Value.int (sg 4 3), Value.int (sg 4 4), Value.int (sg 4 5), Value.ref (g' 63), Value.ref (g' 64), Value.ref (g' 65), Value.ref (g' 66), Value.ref (a 24)] = _
    rw [h3, h2 63 (by decide) (by decide), h2 64 (by decide) (by decide), h2 66 (by decide) (by decide)]
    rfl) hn hlink (fun _ h9 => h9) hd1 hd2 hcells hslots kk
theorem r_new66 (hx : p.tables.exec = Jvm.exec) (hb : c.code = cc) {index : Nat} (hts : ∀ w ∈ Ts, w.before args s = true) (hin : ∀ w ∈ u_ws RX9 TX9 11, w ∈ Ts) (hown : s.vm.findClass RX9 = some m.cls) (hK : va_K D vwCl (tysC T) s) (hw : WS ZC D vwCl T (adr a g) sg lg A s.heap H locs) (hA : ∀ q, s.heap.size ≤ q → A q)
    (harr : (Cond.arrayClass .byte).before args s = true) {n : Int32} (hn : ¬ n < 0 ∧ n.toNatClampNeg ≤ 4096) (hlink : (Cond.fieldLink RX9 index "PeckYard$Orders" (TX9 9).2.1 (TX9 9).2.2.1).before args s = true)
    (hd1 : decode cc pc = .ok (.newarray .byte, 2)) (hd2 : decode cc (pc + 2) = .ok (.putfield index, 3)) (hcells : cells + 1 ≤ R.cells) (hslots : slots + 4096 ≤ R.slots)
    (kk : ∀ (g' : Nat → Nat) (H1 : Heap) (locs1 : List Loc) (sg1 : Sg), sg1 = nw2 sg 66 n → WS ZC D vwCl T (adr a g') sg1 lg A s.heap H1 locs1 → W p l e R s m args below meth c H1 locs1 (cells + 1) (slots + n.toNatClampNeg) Q (F0 m (pc + 5) ls rest)) :
    W p l e R s m args below meth c H locs cells slots Q (F0 m pc ls (.int n :: .ref (adr a g 4) :: rest)) :=
  r_newG (atype := .byte) (ty := .byte) hx hb hts hin hown hK hw hA harr rfl (fun _ h => by cases h) 1 1 rfl rfl (by decide) 66 9 (by decide) (by decide) (by decide) rfl (by decide +kernel) (fun _ _ _ _ => rfl) (fun g' sg' q h1 h2 h3 => by
    rw [h1]
    show [Value.ref (a 3), Value.ref (a 10), Value.int (sg 4 2), Value.int (sg 4 3), Value.int (sg 4 4), Value.int (sg 4 5), Value.ref (g' 63), Value.ref (g' 64), Value.ref (g' 65), Value.ref (g' 66), Value.ref (a 24)] = _
    rw [h3, h2 63 (by decide) (by decide), h2 64 (by decide) (by decide), h2 65 (by decide) (by decide)]
    rfl) hn hlink (fun _ h9 => h9) hd1 hd2 hcells hslots kk
end ZG2
