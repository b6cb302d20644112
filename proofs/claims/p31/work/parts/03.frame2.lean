/-! contexts, contracts and calls over a plan's world -/
def spV (j : Nat) : Int32 := match j with | 0 => 127 | 1 => 32767 | _ => 1000000
def spT (j : Nat) : Value := .int (spV j)
def NestW (w : Cond) : Prop := (∃ (a : String) (i : Nat) (x : MethodName) (h : String), w = .methodLinkNest a i x h) ∨ ∃ (a : String) (i : Nat) (b n d h : String), w = .fieldLinkNest a i b n d h
/-- what lies outside the world and is read: the table of widths; links between nest mates -/
def SPx (b : Bool) (nw : List Cond) (A : Nat → Prop) (U : State) : Prop := b = true → ((∃ t : Nat, va_Z "PeckYard" "MOST_OF_WIDTH" "[I" (.ref t) A U U.heap ∧ va_T .int t 4 spT A U U.heap) ∧ (∀ w ∈ nw, NestW w) ∧ ∀ w ∈ nw, va_Nw w U)
theorem NestW.warm {w : Cond} (h : NestW w) {s U : State} (hW : s.WarmedH U.vm) (hZ : va_Nw w s) : va_Nw w U := by
  rcases h with ⟨a, i, x, h, rfl⟩ | ⟨a, i, b, n, d, h, rfl⟩
  · exact va_Nw.warmM hW hZ
  · exact va_Nw.warmF hW hZ
theorem NestW.same {w : Cond} (h : NestW w) {s U : State} (hW : s.vm = U.vm) (hZ : va_Nw w s) : va_Nw w U := by
  rcases h with ⟨a, i, x, h, rfl⟩ | ⟨a, i, b, n, d, h, rfl⟩
  · exact va_Nw.same rfl hW hZ
  · exact va_Nw.same rfl hW hZ
theorem SPx.go {b : Bool} {nw : List Cond} {A B : Nat → Prop} {s U : State} (h : SPx b nw A s) {H0 H : Heap} {locs : List Loc} (hS : va_S A s.heap H locs) (hAB : ∀ q, B q → A q) (hU : U.heap = H) (hW : s.WarmedH U.vm) : SPx b nw B U := by
  intro hb
  obtain ⟨⟨t, h1, h2⟩, h4, h3⟩ := h hb
  subst hU
  refine ⟨⟨t, ((h1.kept (H1 := U.heap) (fun a ha hn => hS.2.1 a ha hn)).moved hW.alike).narrow hAB, ((h2.kept (H1 := U.heap) (fun a ha hn => hS.2.1 a ha hn)).moved hW.alike).narrow hAB⟩, h4, fun w hw => (h4 w hw).warm hW (h3 w hw)⟩
theorem SPx.calling {b : Bool} {nw : List Cond} {A : Nat → Prop} {U : State} (h : SPx b nw A U) (a : Array Value) (g : JFrame) (mk : MethodId) : SPx b nw A (U.calling g mk a) := by
  intro hb
  obtain ⟨⟨t, h1, h2⟩, h4, h3⟩ := h hb
  exact ⟨⟨t, h1.moved (U := U.calling g mk a) (Vm.Alike.refl U.vm), h2.moved (U := U.calling g mk a) (Vm.Alike.refl U.vm)⟩, h4, fun w hw => NestW.same (s := U) (U := U.calling g mk a) (h4 w hw) rfl (h3 w hw)⟩
def PreZ (Z : Zt) (D : va_G) (cl : List vw_C) (T : Nat → ClassId) (tys : List (ClassId × FieldType)) (ad : Nat → Nat) (sg : Sg) (lg : Lg) (b : Bool) (nw : List Cond) (vs : List Value) (sz : Nat) : Array Value → State → Prop :=
  va_Pc vs (fun U => U.heap.size = sz ∧ va_P D cl (zwd Z T ad sg lg) U.heap ∧ va_K D cl tys U ∧ va_D (fun _ => True) (zwd Z T ad sg lg) ∧ SPx b nw (va_A (zwd Z T ad sg lg) sz) U)
def EndZ (Z : Zt) (D : va_G) (cl : List vw_C) (T : Nat → ClassId) (tys : List (ClassId × FieldType)) (sg : Sg) (lg : Lg) (A : Nat → Prop) (Pad : (Nat → Nat) → Prop) : (Nat → Nat) → State → Prop := fun ad t => Pad ad ∧ va_P D cl (zwd Z T ad sg lg) t.heap ∧ va_K D cl tys t ∧ va_D A (zwd Z T ad sg lg)
abbrev QI (Z : Zt) (D : va_G) (cl : List vw_C) (T : Nat → ClassId) (tys : List (ClassId × FieldType)) (A : Nat → Prop) (Pad : (Nat → Nat) → Prop) (r : Int32) (sg : Sg) (lg : Lg) := va_Qi (fun (r' : Int32) (_ : Nat → Nat) => r' = r) (EndZ Z D cl T tys sg lg A Pad) A
abbrev QL (Z : Zt) (D : va_G) (cl : List vw_C) (T : Nat → ClassId) (tys : List (ClassId × FieldType)) (A : Nat → Prop) (Pad : (Nat → Nat) → Prop) (r : Int64) (sg : Sg) (lg : Lg) := va_Ql (fun (r' : Int64) (_ : Nat → Nat) => r' = r) (EndZ Z D cl T tys sg lg A Pad) A
abbrev QV (Z : Zt) (D : va_G) (cl : List vw_C) (T : Nat → ClassId) (tys : List (ClassId × FieldType)) (A : Nat → Prop) (Pad : (Nat → Nat) → Prop) (sg : Sg) (lg : Lg) := va_Qv (fun (_ : Nat → Nat) => True) (EndZ Z D cl T tys sg lg A Pad) A
def Cx (p : Program) (s : State) (m : MethodId) (args : Array Value) (meth : Method) (c : Code) (cc : ByteArray) (nL : Nat) (own : String) (Ts : List Cond) (ret : Option FieldType) (D : va_G) (cl : List vw_C) (tys : List (ClassId × FieldType)) (A : Nat → Prop) (b : Bool) (nw : List Cond) : Prop :=
  CallFix p m c cc nL s args Ts own ∧ meth.sig.returnType = ret ∧ meth.locks = false ∧ va_K D cl tys s ∧ (∀ q, s.heap.size ≤ q → A q) ∧ SPx b nw A s
theorem FrameBlind.Z {Z : Zt} {D : va_G} {cl : List vw_C} {T : Nat → ClassId} {tys : List (ClassId × FieldType)} {ad : Nat → Nat} {sg : Sg} {lg : Lg} {b : Bool} {nw : List Cond} {vs : List Value} {sz : Nat} : FrameBlind (PreZ Z D cl T tys ad sg lg b nw vs sz) := by
  intro a U g mk q
  obtain ⟨q0, q1, qP, qK, qD, qS⟩ := q
  exact ⟨q0, q1, qP, va_K.moved (u := U) (U := U.calling g mk a) (Vm.Alike.refl U.vm) qK, qD, qS.calling a g mk⟩
section ZC
variable {p : Program} {l : Launch} {e : Env} {R : Room} {s : State} {m : MethodId} {args : Array Value} {below : List Frame} {meth : Method} {c : Code} {H : Heap} {locs : List Loc} {cells slots : Nat} {Q : State → Prop}
variable {cc : ByteArray} {pc : Nat} {ls : Array Slot} {rest st : List Value} {D : va_G} {cl : List vw_C} {tys : List (ClassId × FieldType)} {A : Nat → Prop}
variable {Z : Zt} {T : Nat → ClassId} {ad : Nat → Nat} {sg sg' : Sg} {lg lg' : Lg} {b : Bool} {nw : List Cond} {nL : Nat} {own : String} {Ts : List Cond} {ret ret' : Option FieldType}
variable {y : MethodName} {bytes : ByteArray} {maxL mc ms n index : Nat} {ws : List Cond} {rm : Room} {Pad : (Nat → Nat) → Prop} {As : List Value}
theorem WS.free (hw : WS Z D cl T ad sg lg A s.heap H locs) (hA : ∀ q, s.heap.size ≤ q → A q) : ∀ q, va_A (zwd Z T ad sg lg) H.size q → A q := by
  intro q h
  rcases h with ⟨k, e, h⟩ | h
  · exact hw.2.1.2 k (q, e) h
  · exact hA q (Nat.le_trans hw.2.2.1 h)
theorem WS.pre (hw : WS Z D cl T ad sg lg A s.heap H locs) (C : Cx p s m args meth c cc nL own Ts ret D cl tys A b nw) (vs : List Value) (U : State) (hU : U.heap = H) (hW : s.WarmedH U.vm) : PreZ Z D cl T tys ad sg lg b nw vs H.size vs.toArray U := by
  obtain ⟨-, -, -, hK, hA, hsp⟩ := C
  exact ⟨rfl, by rw [hU], by rw [hU]; exact hw.1, va_K.moved hW.alike hK, hw.2.1.weaken (fun _ _ _ _ => trivial), hsp.go (H0 := s.heap) hw.2.2 (hw.free hA) hU hW⟩
/-- a call's end, in the caller's words -/
theorem WS.back (hw : WS Z D cl T ad sg lg A s.heap H locs) (hA : ∀ q, s.heap.size ≤ q → A q) {ad' : Nat → Nat} {t : State} {H1 : Heap} {locs1 : List Loc} (ht : t.heap = H1) (hB : EndZ Z D cl T tys sg' lg' (va_A (zwd Z T ad sg lg) H.size) Pad ad' t) (hS : va_S A s.heap H1 locs1) : Pad ad' ∧ WS Z D cl T ad' sg' lg' A s.heap H1 locs1 :=
  ⟨hB.1, by rw [← ht]; exact hB.2.1, hB.2.2.2.weaken (fun _ q _ h => hw.free hA q.1 h), hS⟩
theorem r_cVi (C : Cx p s m args meth c cc nL own Ts ret D cl tys A b nw) (hw : WS Z D cl T ad sg lg A s.heap H locs) (k : Nat) (hk : k < Z.1) {ci : Nat} {fl : List (Option Nat)} (hs : Z.2.2.1 k = (ci + 5, fl)) {q : vw_C} (hc : cl[ci]? = some q) {r : Int32} (hM : Met l y ws rm (PreZ Z D cl T tys ad sg lg b nw (.ref (ad k) :: As) H.size) (QI Z D cl T tys (va_A (zwd Z T ad sg lg) H.size) Pad r sg' lg') mc ms (va_A (zwd Z T ad sg lg) H.size))
    (cw : CallW R s args own q.1 index y bytes maxL ret' ws rm mc ms n) (hn : As.length = n) (hsize : ls.size = nL) (hst : st = As.reverse ++ .ref (ad k) :: rest) (hW : (rest.map fun v => v.category).sum ≤ 8) (hdg : decode cc pc = .ok (.invokevirtual index, 3)) (hf : cells + mc ≤ R.cells ∧ slots + ms ≤ R.slots)
    (kk : ∀ (ad' : Nat → Nat) (H1 : Heap) (locs1 : List Loc), Pad ad' → WS Z D cl T ad' sg' lg' A s.heap H1 locs1 → W p l e R s m args below meth c H1 locs1 (cells + mc) (slots + ms) Q (F0 m (pc + 3) ls (.int r :: rest))) : W p l e R s m args below meth c H locs cells slots Q (F0 m pc ls st) := by
  have hA := C.2.2.2.2.1
  refine va_calli (va_runV (As := As) (rest := rest) C.1 hM cw ⟨FrameBlind.Z, va_recv C.2.2.2.1 hw.1 hc (by rw [zwd_get hk, zce_o hs]), fun U hU hW => hw.pre C _ U hU hW⟩ rfl hn hsize hst (lv_room hW) hdg hf) hw.2.2 (fun q _ h => hw.free hA q h) (hw.free hA) (fun r2 ad' t H1 locs1 ht hvm hr hB hz1 hk1 hS => ?_)
  subst hr
  obtain ⟨h1, h2⟩ := hw.back hA ht hB hS
  exact kk ad' H1 locs1 h1 h2
theorem r_cVl (C : Cx p s m args meth c cc nL own Ts ret D cl tys A b nw) (hw : WS Z D cl T ad sg lg A s.heap H locs) (k : Nat) (hk : k < Z.1) {ci : Nat} {fl : List (Option Nat)} (hs : Z.2.2.1 k = (ci + 5, fl)) {q : vw_C} (hc : cl[ci]? = some q) {r : Int64} (hM : Met l y ws rm (PreZ Z D cl T tys ad sg lg b nw (.ref (ad k) :: As) H.size) (QL Z D cl T tys (va_A (zwd Z T ad sg lg) H.size) Pad r sg' lg') mc ms (va_A (zwd Z T ad sg lg) H.size))
    (cw : CallW R s args own q.1 index y bytes maxL ret' ws rm mc ms n) (hn : As.length = n) (hsize : ls.size = nL) (hst : st = As.reverse ++ .ref (ad k) :: rest) (hW : (rest.map fun v => v.category).sum ≤ 8) (hdg : decode cc pc = .ok (.invokevirtual index, 3)) (hf : cells + mc ≤ R.cells ∧ slots + ms ≤ R.slots)
    (kk : ∀ (ad' : Nat → Nat) (H1 : Heap) (locs1 : List Loc), Pad ad' → WS Z D cl T ad' sg' lg' A s.heap H1 locs1 → W p l e R s m args below meth c H1 locs1 (cells + mc) (slots + ms) Q (F0 m (pc + 3) ls (.long r :: rest))) : W p l e R s m args below meth c H locs cells slots Q (F0 m pc ls st) := by
  have hA := C.2.2.2.2.1
  refine va_calll (va_runV (As := As) (rest := rest) C.1 hM cw ⟨FrameBlind.Z, va_recv C.2.2.2.1 hw.1 hc (by rw [zwd_get hk, zce_o hs]), fun U hU hW => hw.pre C _ U hU hW⟩ rfl hn hsize hst (lv_room hW) hdg hf) hw.2.2 (fun q _ h => hw.free hA q h) (hw.free hA) (fun r2 ad' t H1 locs1 ht hvm hr hB hz1 hk1 hS => ?_)
  subst hr
  obtain ⟨h1, h2⟩ := hw.back hA ht hB hS
  exact kk ad' H1 locs1 h1 h2
theorem r_cVv (C : Cx p s m args meth c cc nL own Ts ret D cl tys A b nw) (hw : WS Z D cl T ad sg lg A s.heap H locs) (k : Nat) (hk : k < Z.1) {ci : Nat} {fl : List (Option Nat)} (hs : Z.2.2.1 k = (ci + 5, fl)) {q : vw_C} (hc : cl[ci]? = some q) (hM : Met l y ws rm (PreZ Z D cl T tys ad sg lg b nw (.ref (ad k) :: As) H.size) (QV Z D cl T tys (va_A (zwd Z T ad sg lg) H.size) Pad sg' lg') mc ms (va_A (zwd Z T ad sg lg) H.size))
    (cw : CallW R s args own q.1 index y bytes maxL ret' ws rm mc ms n) (hn : As.length = n) (hsize : ls.size = nL) (hst : st = As.reverse ++ .ref (ad k) :: rest) (hW : (rest.map fun v => v.category).sum ≤ 8) (hdg : decode cc pc = .ok (.invokevirtual index, 3)) (hf : cells + mc ≤ R.cells ∧ slots + ms ≤ R.slots)
    (kk : ∀ (ad' : Nat → Nat) (H1 : Heap) (locs1 : List Loc), Pad ad' → WS Z D cl T ad' sg' lg' A s.heap H1 locs1 → W p l e R s m args below meth c H1 locs1 (cells + mc) (slots + ms) Q (F0 m (pc + 3) ls rest)) : W p l e R s m args below meth c H locs cells slots Q (F0 m pc ls st) := by
  have hA := C.2.2.2.2.1
  refine va_callv (va_runV (As := As) (rest := rest) C.1 hM cw ⟨FrameBlind.Z, va_recv C.2.2.2.1 hw.1 hc (by rw [zwd_get hk, zce_o hs]), fun U hU hW => hw.pre C _ U hU hW⟩ rfl hn hsize hst (lv_room hW) hdg hf) hw.2.2 (fun q _ h => hw.free hA q h) (hw.free hA) (fun ad' t H1 locs1 ht hvm hr hB hz1 hk1 hS => ?_)
  obtain ⟨h1, h2⟩ := hw.back hA ht hB hS
  exact kk ad' H1 locs1 h1 h2
theorem r_cSi (C : Cx p s m args meth c cc nL own Ts ret D cl tys A b nw) (hw : WS Z D cl T ad sg lg A s.heap H locs) {r : Int32} (hM : Met l y ws rm (PreZ Z D cl T tys ad sg lg b nw As H.size) (QI Z D cl T tys (va_A (zwd Z T ad sg lg) H.size) Pad r sg' lg') mc ms (va_A (zwd Z T ad sg lg) H.size))
    (cw : CallB R s args own index y bytes maxL ret' ws rm mc ms n ∧ (Cond.static y).before args s = true) (hn : As.length = n) (hsize : ls.size = nL) (hst : st = As.reverse ++ rest) (hW : (rest.map fun v => v.category).sum ≤ 8) (hdg : decode cc pc = .ok (.invokestatic index, 3)) (hf : cells + mc ≤ R.cells ∧ slots + ms ≤ R.slots)
    (kk : ∀ (ad' : Nat → Nat) (H1 : Heap) (locs1 : List Loc), Pad ad' → WS Z D cl T ad' sg' lg' A s.heap H1 locs1 → W p l e R s m args below meth c H1 locs1 (cells + mc) (slots + ms) Q (F0 m (pc + 3) ls (.int r :: rest))) : W p l e R s m args below meth c H locs cells slots Q (F0 m pc ls st) := by
  have hA := C.2.2.2.2.1
  refine va_calli (va_runS (As := As) (rest := rest) C.1 hM cw ⟨FrameBlind.Z, fun U hU hW => hw.pre C _ U hU hW⟩ rfl hn hsize hst (lv_room hW) hdg hf) hw.2.2 (fun q _ h => hw.free hA q h) (hw.free hA) (fun r2 ad' t H1 locs1 ht hvm hr hB hz1 hk1 hS => ?_)
  subst hr
  obtain ⟨h1, h2⟩ := hw.back hA ht hB hS
  exact kk ad' H1 locs1 h1 h2
theorem r_cSv (C : Cx p s m args meth c cc nL own Ts ret D cl tys A b nw) (hw : WS Z D cl T ad sg lg A s.heap H locs) (hM : Met l y ws rm (PreZ Z D cl T tys ad sg lg b nw As H.size) (QV Z D cl T tys (va_A (zwd Z T ad sg lg) H.size) Pad sg' lg') mc ms (va_A (zwd Z T ad sg lg) H.size))
    (cw : CallB R s args own index y bytes maxL ret' ws rm mc ms n ∧ (Cond.static y).before args s = true) (hn : As.length = n) (hsize : ls.size = nL) (hst : st = As.reverse ++ rest) (hW : (rest.map fun v => v.category).sum ≤ 8) (hdg : decode cc pc = .ok (.invokestatic index, 3)) (hf : cells + mc ≤ R.cells ∧ slots + ms ≤ R.slots)
    (kk : ∀ (ad' : Nat → Nat) (H1 : Heap) (locs1 : List Loc), Pad ad' → WS Z D cl T ad' sg' lg' A s.heap H1 locs1 → W p l e R s m args below meth c H1 locs1 (cells + mc) (slots + ms) Q (F0 m (pc + 3) ls rest)) : W p l e R s m args below meth c H locs cells slots Q (F0 m pc ls st) := by
  have hA := C.2.2.2.2.1
  refine va_callv (va_runS (As := As) (rest := rest) C.1 hM cw ⟨FrameBlind.Z, fun U hU hW => hw.pre C _ U hU hW⟩ rfl hn hsize hst (lv_room hW) hdg hf) hw.2.2 (fun q _ h => hw.free hA q h) (hw.free hA) (fun ad' t H1 locs1 ht hvm hr hB hz1 hk1 hS => ?_)
  obtain ⟨h1, h2⟩ := hw.back hA ht hB hS
  exact kk ad' H1 locs1 h1 h2
theorem r_cNi (C : Cx p s m args meth c cc nL own Ts ret D cl tys A b nw) (hw : WS Z D cl T ad sg lg A s.heap H locs) {host : String} {r : Int32} (hM : Met l y ws rm (PreZ Z D cl T tys ad sg lg b nw As H.size) (QI Z D cl T tys (va_A (zwd Z T ad sg lg) H.size) Pad r sg' lg') mc ms (va_A (zwd Z T ad sg lg) H.size))
    (cw : va_CN R s args own index y host bytes maxL ret' ws rm mc ms n ∧ (Cond.static y).before args s = true ∧ True) (hn : As.length = n) (hsize : ls.size = nL) (hst : st = As.reverse ++ rest) (hW : (rest.map fun v => v.category).sum ≤ 8) (hdg : decode cc pc = .ok (.invokestatic index, 3)) (hf : cells + mc ≤ R.cells ∧ slots + ms ≤ R.slots)
    (kk : ∀ (ad' : Nat → Nat) (H1 : Heap) (locs1 : List Loc), Pad ad' → WS Z D cl T ad' sg' lg' A s.heap H1 locs1 → W p l e R s m args below meth c H1 locs1 (cells + mc) (slots + ms) Q (F0 m (pc + 3) ls (.int r :: rest))) : W p l e R s m args below meth c H locs cells slots Q (F0 m pc ls st) := by
  have hA := C.2.2.2.2.1
  refine va_calli (va_runSN (As := As) (rest := rest) C.1 hM cw ⟨FrameBlind.Z, fun U hU hW => hw.pre C _ U hU hW⟩ rfl hn hsize hst (lv_room hW) hdg hf) hw.2.2 (fun q _ h => hw.free hA q h) (hw.free hA) (fun r2 ad' t H1 locs1 ht hvm hr hB hz1 hk1 hS => ?_)
  subst hr
  obtain ⟨h1, h2⟩ := hw.back hA ht hB hS
  exact kk ad' H1 locs1 h1 h2
theorem r_cNv (C : Cx p s m args meth c cc nL own Ts ret D cl tys A b nw) (hw : WS Z D cl T ad sg lg A s.heap H locs) {host : String} (hM : Met l y ws rm (PreZ Z D cl T tys ad sg lg b nw As H.size) (QV Z D cl T tys (va_A (zwd Z T ad sg lg) H.size) Pad sg' lg') mc ms (va_A (zwd Z T ad sg lg) H.size))
    (cw : va_CN R s args own index y host bytes maxL ret' ws rm mc ms n ∧ (Cond.static y).before args s = true ∧ True) (hn : As.length = n) (hsize : ls.size = nL) (hst : st = As.reverse ++ rest) (hW : (rest.map fun v => v.category).sum ≤ 8) (hdg : decode cc pc = .ok (.invokestatic index, 3)) (hf : cells + mc ≤ R.cells ∧ slots + ms ≤ R.slots)
    (kk : ∀ (ad' : Nat → Nat) (H1 : Heap) (locs1 : List Loc), Pad ad' → WS Z D cl T ad' sg' lg' A s.heap H1 locs1 → W p l e R s m args below meth c H1 locs1 (cells + mc) (slots + ms) Q (F0 m (pc + 3) ls rest)) : W p l e R s m args below meth c H locs cells slots Q (F0 m pc ls st) := by
  have hA := C.2.2.2.2.1
  refine va_callv (va_runSN (As := As) (rest := rest) C.1 hM cw ⟨FrameBlind.Z, fun U hU hW => hw.pre C _ U hU hW⟩ rfl hn hsize hst (lv_room hW) hdg hf) hw.2.2 (fun q _ h => hw.free hA q h) (hw.free hA) (fun ad' t H1 locs1 ht hvm hr hB hz1 hk1 hS => ?_)
  obtain ⟨h1, h2⟩ := hw.back hA ht hB hS
  exact kk ad' H1 locs1 h1 h2
theorem r_iret (C : Cx p s m args meth c cc nL own Ts (some .int) D cl tys A b nw) (hw : WS Z D cl T ad sg lg A s.heap H locs) (hp : Pad ad) {r : Int32} (hc : cells ≤ mc) (hs : slots ≤ ms) (hdg : decode cc pc = .ok (.ireturn, 1)) : W p l e R s m args below meth c H locs cells slots (MQ below (QI Z D cl T tys A Pad r sg lg) args s mc ms A) (F0 m pc ls [.int r]) :=
  W.widen hc hs (W.iret C.1.1 C.1.2.1 C.2.1 (fun t ht hW => ⟨⟨r, ad, rfl, rfl, hp, by rw [ht]; exact hw.1, va_K.moved hW.alike C.2.2.2.1, hw.2.1⟩, hw.2.2.F ht⟩) hw.2.2.2.2 hdg C.2.2.1)
theorem r_zret (C : Cx p s m args meth c cc nL own Ts (some .boolean) D cl tys A b nw) (hw : WS Z D cl T ad sg lg A s.heap H locs) (hp : Pad ad) {r : Int32} (hz : r &&& 1 = r) (hc : cells ≤ mc) (hs : slots ≤ ms) (hdg : decode cc pc = .ok (.ireturn, 1)) : W p l e R s m args below meth c H locs cells slots (MQ below (QI Z D cl T tys A Pad r sg lg) args s mc ms A) (F0 m pc ls [.int r]) :=
  W.widen hc hs (W.zret C.1.1 C.1.2.1 C.2.1 (show narrow .boolean (.int r) = .int r from congrArg Value.int hz) (fun t ht hW => ⟨⟨r, ad, rfl, rfl, hp, by rw [ht]; exact hw.1, va_K.moved hW.alike C.2.2.2.1, hw.2.1⟩, hw.2.2.F ht⟩) hw.2.2.2.2 hdg C.2.2.1)
theorem r_lret (C : Cx p s m args meth c cc nL own Ts (some .long) D cl tys A b nw) (hw : WS Z D cl T ad sg lg A s.heap H locs) (hp : Pad ad) {r : Int64} (hc : cells ≤ mc) (hs : slots ≤ ms) (hdg : decode cc pc = .ok (.lreturn, 1)) : W p l e R s m args below meth c H locs cells slots (MQ below (QL Z D cl T tys A Pad r sg lg) args s mc ms A) (F0 m pc ls [.long r]) :=
  W.widen hc hs (W.lret C.1.1 C.1.2.1 C.2.1 (fun t ht hW => ⟨⟨r, ad, rfl, rfl, hp, by rw [ht]; exact hw.1, va_K.moved hW.alike C.2.2.2.1, hw.2.1⟩, hw.2.2.F ht⟩) hw.2.2.2.2 hdg C.2.2.1)
theorem r_vret (C : Cx p s m args meth c cc nL own Ts none D cl tys A b nw) (hw : WS Z D cl T ad sg lg A s.heap H locs) (hp : Pad ad) (hc : cells ≤ mc) (hs : slots ≤ ms) (hdg : decode cc pc = .ok (.return_, 1)) : W p l e R s m args below meth c H locs cells slots (MQ below (QV Z D cl T tys A Pad sg lg) args s mc ms A) (F0 m pc ls []) :=
  W.widen hc hs (W.vret C.1.1 C.1.2.1 C.2.1 (fun t ht hW => ⟨⟨ad, rfl, trivial, hp, by rw [ht]; exact hw.1, va_K.moved hW.alike C.2.2.2.1, hw.2.1⟩, hw.2.2.F ht⟩) hw.2.2.2.2 hdg C.2.2.1)
/-- a contract out of a walk of the body -/
theorem metZ {ws' : List Cond} (vs : List Value) (sz : Nat) {Qc : Array Value → State → Outcome → State → Prop} (hy : plainName y.cls = true) (hw : ws = Cond.code y cc maxL ret :: ws') (hvs : (lg_sl vs).length ≤ maxL)
    (body : ∀ (p : Program) (e : Env) (s : State) (m : MethodId) (below : List Frame) (meth : Method) (c : Code) (ls : Array Slot), Cx p s m vs.toArray meth c cc maxL y.cls ws ret D cl tys (va_A (zwd Z T ad sg lg) sz) b nw → WS Z D cl T ad sg lg (va_A (zwd Z T ad sg lg) sz) s.heap s.heap [] → lv_has ls maxL (lv_args 0 vs) → W p l e rm s m vs.toArray below meth c s.heap [] 0 0 (MQ below Qc vs.toArray s mc ms (va_A (zwd Z T ad sg lg) sz)) (F0 m 0 ls [])) :
    Met l y ws rm (PreZ Z D cl T tys ad sg lg b nw vs sz) Qc mc ms (va_A (zwd Z T ad sg lg) sz) := by
  refine Met.ofW (cc := cc) (maxL := maxL) (ret := ret) hy hw ?_
  intro p e s m args below meth c s₁ B hml hv
  obtain ⟨rfl, hsz, hP, hK, hD0, hsp⟩ := hv
  have hl := lv_entry vs (n := maxL) hvs
  rw [lg_entry_eq]
  generalize (lg_sl vs ++ List.replicate (maxL - (lg_sl vs).length) Slot.unset).toArray = ls at hl ⊢
  exact body p e s m below meth c ls ⟨⟨B.exec, B.bytes, hml, findClass_of_methodNamed B.named, atoms_spec (ws := ws) B.pre⟩, B.returns, B.notSynchronized, hK, fun q h => Or.inr (by rw [← hsz]; exact h), hsp⟩ ⟨hP, hD0.self, va_S.rf⟩ hl
end ZC
