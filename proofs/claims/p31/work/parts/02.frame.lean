/-! A world by a plan: cells by their numbers, ints and longs by (cell, place). Everything that a method changes is sg (and lg). -/
abbrev Sg : Type := Nat → Nat → Int32
abbrev Lg : Type := Nat → Nat → Int64
abbrev Sc : Type := Nat → Nat × List (Option Nat)
abbrev Zt : Type := Nat × Nat × Sc × (Sg → Nat → Nat)
def up2 (f : Sg) (k j : Nat) (v : Int32) : Sg := fun a => if a = k then upd (f a) j v else f a
def up2L (f : Lg) (k j : Nat) (v : Int64) : Lg := fun a => if a = k then vp_updL (f a) j v else f a
theorem up2_s (f : Sg) (k j : Nat) (v : Int32) : up2 f k j v k = upd (f k) j v := if_pos rfl
theorem up2_n {f : Sg} {k j : Nat} {v : Int32} {a : Nat} (h : a ≠ k) : up2 f k j v a = f a := if_neg h
theorem up2L_s (f : Lg) (k j : Nat) (v : Int64) : up2L f k j v k = vp_updL (f k) j v := if_pos rfl
theorem up2L_n {f : Lg} {k j : Nat} {v : Int64} {a : Nat} (h : a ≠ k) : up2L f k j v a = f a := if_neg h
def zfv (ad : Nat → Nat) (f : Nat → Int32) : Nat → List (Option Nat) → List Value
  | _, [] => []
  | j, none :: r => .int (f j) :: zfv ad f (j + 1) r
  | j, some t :: r => .ref (ad t) :: zfv ad f (j + 1) r
theorem zfv_len (ad : Nat → Nat) (f : Nat → Int32) : ∀ (l : List (Option Nat)) (j : Nat), (zfv ad f j l).length = l.length
  | [], _ => rfl
  | none :: r, j => by simp [zfv, zfv_len ad f r (j + 1)]
  | some t :: r, j => by simp [zfv, zfv_len ad f r (j + 1)]
theorem zfv_i (ad : Nat → Nat) (f : Nat → Int32) : ∀ (l : List (Option Nat)) (j i : Nat), l[i]? = some none → (zfv ad f j l)[i]? = some (.int (f (j + i)))
  | [], _, i, h => by simp at h
  | none :: r, j, 0, _ => by simp [zfv]
  | some t :: r, j, 0, h => by simp at h
  | none :: r, j, i + 1, h => by
    have := zfv_i ad f r (j + 1) i (by simpa using h)
    simp only [zfv, List.getElem?_cons_succ, this]
    congr 3; omega
  | some t :: r, j, i + 1, h => by
    have := zfv_i ad f r (j + 1) i (by simpa using h)
    simp only [zfv, List.getElem?_cons_succ, this]
    congr 3; omega
theorem zfv_r (ad : Nat → Nat) (f : Nat → Int32) : ∀ (l : List (Option Nat)) (j i t : Nat), l[i]? = some (some t) → (zfv ad f j l)[i]? = some (.ref (ad t))
  | [], _, i, _, h => by simp at h
  | none :: r, j, 0, _, h => by simp at h
  | some t :: r, j, 0, t', h => by simp at h; subst h; simp [zfv]
  | none :: r, j, i + 1, t', h => by simpa [zfv] using zfv_r ad f r (j + 1) i t' (by simpa using h)
  | some t :: r, j, i + 1, t', h => by simpa [zfv] using zfv_r ad f r (j + 1) i t' (by simpa using h)
theorem zfv_set (ad : Nat → Nat) (f : Nat → Int32) (v : Int32) : ∀ (l : List (Option Nat)) (j i : Nat), l[i]? = some none → zfv ad (upd f (j + i) v) j l = (zfv ad f j l).set i (.int v)
  | [], _, i, h => by simp at h
  | none :: r, j, 0, _ => by
    simp only [zfv, List.set_cons_zero, Nat.add_zero]
    refine congr (congrArg _ (by simp [upd])) ?_
    exact zfv_above ad f v r (j + 1) j (by omega)
  | some t :: r, j, 0, h => by simp at h
  | none :: r, j, i + 1, h => by
    have := zfv_set ad f v r (j + 1) i (by simpa using h)
    simp only [zfv, List.set_cons_succ]
    refine congr (congrArg _ ?_) ?_
    · simp [upd]
    · rw [← this]; congr 2; omega
  | some t :: r, j, i + 1, h => by
    have := zfv_set ad f v r (j + 1) i (by simpa using h)
    simp only [zfv, List.set_cons_succ]
    refine congr (congrArg _ rfl) ?_
    rw [← this]; congr 2; omega
where
  zfv_above (ad : Nat → Nat) (f : Nat → Int32) (v : Int32) : ∀ (l : List (Option Nat)) (j k : Nat), k < j → zfv ad (upd f k v) j l = zfv ad f j l
  | [], _, _, _ => rfl
  | none :: r, j, k, h => by
    simp only [zfv, zfv_above ad f v r (j + 1) k (by omega)]
    congr 2; simp [upd]; omega
  | some t :: r, j, k, h => by
    simp only [zfv, zfv_above ad f v r (j + 1) k (by omega)]
def zce (Z : Zt) (T : Nat → ClassId) (ad : Nat → Nat) (sg : Sg) (lg : Lg) (k : Nat) : va_E :=
  match (Z.2.2.1 k).1 with
  | 0 => .inl (T 0, Z.2.2.2 sg k, .inl (sg k))
  | 1 => .inl (T 1, Z.2.2.2 sg k, .inl (sg k))
  | 2 => .inl (T 2, Z.2.2.2 sg k, .inl (sg k))
  | 3 => .inl (T 3, Z.2.2.2 sg k, .inr (.inl (lg k)))
  | 4 => .inl (T 4, Z.2.2.2 sg k, .inr (.inr (.inr (.inr (fun j => some (ad (Z.2.1 + j % 8)))))))
  | c + 5 => .inr (c, zfv ad (sg k) 0 (Z.2.2.1 k).2)
def zwd (Z : Zt) (T : Nat → ClassId) (ad : Nat → Nat) (sg : Sg) (lg : Lg) : va_W := (List.range Z.1).map (fun k => (ad k, zce Z T ad sg lg k))
section ZW
variable {Z : Zt} {T : Nat → ClassId} {ad : Nat → Nat} {sg sg' : Sg} {lg lg' : Lg} {k : Nat}
theorem zwd_get (hk : k < Z.1) : (zwd Z T ad sg lg)[k]? = some (ad k, zce Z T ad sg lg k) := by simp [zwd, hk]
theorem zce_i (h : (Z.2.2.1 k).1 = 0) : zce Z T ad sg lg k = .inl (T 0, Z.2.2.2 sg k, .inl (sg k)) := by simp [zce, h]
theorem zce_b (h : (Z.2.2.1 k).1 = 1) : zce Z T ad sg lg k = .inl (T 1, Z.2.2.2 sg k, .inl (sg k)) := by simp [zce, h]
theorem zce_z (h : (Z.2.2.1 k).1 = 2) : zce Z T ad sg lg k = .inl (T 2, Z.2.2.2 sg k, .inl (sg k)) := by simp [zce, h]
theorem zce_l (h : (Z.2.2.1 k).1 = 3) : zce Z T ad sg lg k = .inl (T 3, Z.2.2.2 sg k, .inr (.inl (lg k))) := by simp [zce, h]
theorem zce_q (h : (Z.2.2.1 k).1 = 4) : zce Z T ad sg lg k = .inl (T 4, Z.2.2.2 sg k, .inr (.inr (.inr (.inr (fun j => some (ad (Z.2.1 + j % 8))))))) := by simp [zce, h]
theorem zce_o {ci : Nat} {fl : List (Option Nat)} (h : Z.2.2.1 k = (ci + 5, fl)) : zce Z T ad sg lg k = .inr (ci, zfv ad (sg k) 0 fl) := by simp [zce, h]
def Zok (Z : Zt) : Prop := ∀ (sg : Sg) (k i : Nat) (v : Int32) (j : Nat), k < Z.1 → Z.2.2.2 (up2 sg k i v) j = Z.2.2.2 sg j
theorem zce_n (hZ : Zok Z) {i : Nat} {v : Int32} (hk : k < Z.1) {j : Nat} (h : j ≠ k) : zce Z T ad (up2 sg k i v) lg j = zce Z T ad sg lg j := by
  unfold zce
  rw [hZ sg k i v j hk, up2_n h]
theorem zce_nL {i : Nat} {v : Int64} {j : Nat} (h : j ≠ k) : zce Z T ad sg (up2L lg k i v) j = zce Z T ad sg lg j := by
  unfold zce
  rw [up2L_n h]
theorem zwd_set (e : va_E) (he : zce Z T ad sg' lg' k = e) (h : ∀ j, j ≠ k → zce Z T ad sg' lg' j = zce Z T ad sg lg j) : (zwd Z T ad sg lg).set k (ad k, e) = zwd Z T ad sg' lg' := by
  subst he
  refine List.ext_getElem? fun i => ?_
  rw [List.getElem?_set]
  by_cases hi : k = i
  · subst hi
    by_cases hl : k < Z.1
    · simp [zwd, hl]
    · simp [zwd, hl]
  · by_cases hl : i < Z.1
    · simp [zwd, hl, hi, h i (fun q => hi q.symm)]
    · simp [zwd, hl, hi]
/-- the world, and the frame since the method's start -/
def WS (Z : Zt) (D : va_G) (cl : List vw_C) (T : Nat → ClassId) (ad : Nat → Nat) (sg : Sg) (lg : Lg) (A : Nat → Prop) (H0 H : Heap) (locs : List Loc) : Prop :=
  va_P D cl (zwd Z T ad sg lg) H ∧ va_D A (zwd Z T ad sg lg) ∧ va_S A H0 H locs
end ZW
section ZR
variable {p : Program} {l : Launch} {e : Env} {R : Room} {s : State} {m : MethodId} {args : Array Value} {below : List Frame} {meth : Method} {c : Code} {H : Heap} {locs : List Loc} {cells slots : Nat} {Q : State → Prop}
variable {cc : ByteArray} {pc : Nat} {ls : Array Slot} {rest : List Value} {D : va_G} {cl : List vw_C} {tys : List (ClassId × FieldType)} {A : Nat → Prop} {H0 : Heap}
variable {Z : Zt} {T : Nat → ClassId} {ad : Nat → Nat} {sg : Sg} {lg : Lg}
theorem r_iald (hx : p.tables.exec = Jvm.exec) (hb : c.code = cc) (hK : va_K D cl tys s) (hw : WS Z D cl T ad sg lg A H0 H locs) (k t0 n : Nat) (hk : k < Z.1) (hs : (Z.2.2.1 k).1 = 0) (ht : tys[t0]? = some (T 0, .int)) (hn : Z.2.2.2 sg k = n) {i : Int32} (hin : vp_in i n) (hdg : decode cc pc = .ok (.iaload, 1))
    (kk : W p l e R s m args below meth c H locs cells slots Q (F0 m (pc + 1) ls (.int (sg k i.toNatClampNeg) :: rest))) : W p l e R s m args below meth c H locs cells slots Q (F0 m pc ls (.int i :: .ref (ad k) :: rest)) := by
  subst hn
  exact va_iald hx hb hK hw.1 k t0 (by rw [zwd_get hk, zce_i hs]) ht hin hdg kk
theorem r_bald (hx : p.tables.exec = Jvm.exec) (hb : c.code = cc) (hK : va_K D cl tys s) (hw : WS Z D cl T ad sg lg A H0 H locs) (k t0 n : Nat) (hk : k < Z.1) (hs : (Z.2.2.1 k).1 = 1) (ht : tys[t0]? = some (T 1, .byte)) (hn : Z.2.2.2 sg k = n) {i : Int32} (hin : vp_in i n) (hdg : decode cc pc = .ok (.baload, 1))
    (kk : W p l e R s m args below meth c H locs cells slots Q (F0 m (pc + 1) ls (.int (sg k i.toNatClampNeg) :: rest))) : W p l e R s m args below meth c H locs cells slots Q (F0 m pc ls (.int i :: .ref (ad k) :: rest)) := by
  subst hn
  exact va_bald hx hb hK hw.1 k t0 (by rw [zwd_get hk, zce_b hs]) ht hin hdg kk
theorem r_zald (hx : p.tables.exec = Jvm.exec) (hb : c.code = cc) (hK : va_K D cl tys s) (hw : WS Z D cl T ad sg lg A H0 H locs) (k t0 n : Nat) (hk : k < Z.1) (hs : (Z.2.2.1 k).1 = 2) (ht : tys[t0]? = some (T 2, .boolean)) (hn : Z.2.2.2 sg k = n) {i : Int32} (hin : vp_in i n) (hdg : decode cc pc = .ok (.baload, 1))
    (kk : W p l e R s m args below meth c H locs cells slots Q (F0 m (pc + 1) ls (.int (sg k i.toNatClampNeg) :: rest))) : W p l e R s m args below meth c H locs cells slots Q (F0 m pc ls (.int i :: .ref (ad k) :: rest)) := by
  subst hn
  exact va_zald hx hb hK hw.1 k t0 (by rw [zwd_get hk, zce_z hs]) ht hin hdg kk
theorem r_lald (hx : p.tables.exec = Jvm.exec) (hb : c.code = cc) (hK : va_K D cl tys s) (hw : WS Z D cl T ad sg lg A H0 H locs) (k t0 n : Nat) (hk : k < Z.1) (hs : (Z.2.2.1 k).1 = 3) (ht : tys[t0]? = some (T 3, .long)) (hn : Z.2.2.2 sg k = n) {i : Int32} (hin : vp_in i n) (hdg : decode cc pc = .ok (.laload, 1))
    (kk : W p l e R s m args below meth c H locs cells slots Q (F0 m (pc + 1) ls (.long (lg k i.toNatClampNeg) :: rest))) : W p l e R s m args below meth c H locs cells slots Q (F0 m pc ls (.int i :: .ref (ad k) :: rest)) := by
  subst hn
  exact va_lald hx hb hK hw.1 k t0 (by rw [zwd_get hk, zce_l hs]) ht hin hdg kk
theorem r_qald (hx : p.tables.exec = Jvm.exec) (hb : c.code = cc) (hK : va_K D cl tys s) (hw : WS Z D cl T ad sg lg A H0 H locs) (k t0 n : Nat) (hk : k < Z.1) (hs : (Z.2.2.1 k).1 = 4) {C : String} (ht : tys[t0]? = some (T 4, .object C)) (hn : Z.2.2.2 sg k = n) {i : Int32} (hin : vp_in i 8) (hdg : decode cc pc = .ok (.aaload, 1)) (h8 : n = 8 := by rfl)
    (kk : W p l e R s m args below meth c H locs cells slots Q (F0 m (pc + 1) ls (.ref (ad (Z.2.1 + i.toNatClampNeg)) :: rest))) : W p l e R s m args below meth c H locs cells slots Q (F0 m pc ls (.int i :: .ref (ad k) :: rest)) := by
  subst h8
  have hlt : i.toNatClampNeg < 8 := Nat.not_le.mp fun q => hin (Or.inr q)
  refine va_aldq (C := C) hx hb hK hw.1 k t0 (by rw [zwd_get hk, zce_q hs, hn]) ht hin hdg ?_
  show W p l e R s m args below meth c H locs cells slots Q (F0 m (pc + 1) ls (.ref (ad (Z.2.1 + i.toNatClampNeg % 8)) :: rest))
  rw [Nat.mod_eq_of_lt hlt]
  exact kk
theorem r_iast (hZ : Zok Z) (hx : p.tables.exec = Jvm.exec) (hb : c.code = cc) (hK : va_K D cl tys s) (hw : WS Z D cl T ad sg lg A H0 H locs) (k t0 n : Nat) (hk : k < Z.1) (hs : (Z.2.2.1 k).1 = 0) (ht : tys[t0]? = some (T 0, .int)) (hn : Z.2.2.2 sg k = n) {i x : Int32} (hin : vp_in i n) (hdg : decode cc pc = .ok (.iastore, 1))
    (kk : ∀ (H1 : Heap) (locs1 : List Loc) (sg1 : Sg), sg1 = up2 sg k i.toNatClampNeg x → WS Z D cl T ad sg1 lg A H0 H1 locs1 → W p l e R s m args below meth c H1 locs1 cells slots Q (F0 m (pc + 1) ls rest)) : W p l e R s m args below meth c H locs cells slots Q (F0 m pc ls (.int x :: .int i :: .ref (ad k) :: rest)) := by
  subst hn
  refine va_iast hx hb hK hw.1 hw.2.1 hw.2.2 k t0 (by rw [zwd_get hk, zce_i hs]) ht hin hdg (fun H1 locs1 hP hD hS => kk H1 locs1 _ rfl ?_)
  have he := zwd_set (Z := Z) (T := T) (ad := ad) (sg := sg) (sg' := up2 sg k i.toNatClampNeg x) (lg := lg) (lg' := lg) (k := k) _ (by rw [zce_i hs, hZ _ _ _ _ _ hk, up2_s]) (fun j hj => zce_n hZ hk hj)
  rw [he] at hP hD
  exact ⟨hP, hD, hS⟩
theorem r_bast (hZ : Zok Z) (hx : p.tables.exec = Jvm.exec) (hb : c.code = cc) (hK : va_K D cl tys s) (hw : WS Z D cl T ad sg lg A H0 H locs) (k t0 n : Nat) (hk : k < Z.1) (hs : (Z.2.2.1 k).1 = 1) (ht : tys[t0]? = some (T 1, .byte)) (hn : Z.2.2.2 sg k = n) {i x : Int32} (hin : vp_in i n) (hdg : decode cc pc = .ok (.bastore, 1))
    (kk : ∀ (H1 : Heap) (locs1 : List Loc) (sg1 : Sg), sg1 = up2 sg k i.toNatClampNeg x.toInt8.toInt32 → WS Z D cl T ad sg1 lg A H0 H1 locs1 → W p l e R s m args below meth c H1 locs1 cells slots Q (F0 m (pc + 1) ls rest)) : W p l e R s m args below meth c H locs cells slots Q (F0 m pc ls (.int x :: .int i :: .ref (ad k) :: rest)) := by
  subst hn
  refine va_bast hx hb hK hw.1 hw.2.1 hw.2.2 k t0 (by rw [zwd_get hk, zce_b hs]) ht hin hdg (fun H1 locs1 hP hD hS => kk H1 locs1 _ rfl ?_)
  have he := zwd_set (Z := Z) (T := T) (ad := ad) (sg := sg) (sg' := up2 sg k i.toNatClampNeg x.toInt8.toInt32) (lg := lg) (lg' := lg) (k := k) _ (by rw [zce_b hs, hZ _ _ _ _ _ hk, up2_s]) (fun j hj => zce_n hZ hk hj)
  rw [vp_nar_byte, he] at hP hD
  exact ⟨hP, hD, hS⟩
theorem r_zast (hZ : Zok Z) (hx : p.tables.exec = Jvm.exec) (hb : c.code = cc) (hK : va_K D cl tys s) (hw : WS Z D cl T ad sg lg A H0 H locs) (k t0 n : Nat) (hk : k < Z.1) (hs : (Z.2.2.1 k).1 = 2) (ht : tys[t0]? = some (T 2, .boolean)) (hn : Z.2.2.2 sg k = n) {i x : Int32} (hin : vp_in i n) (hdg : decode cc pc = .ok (.bastore, 1))
    (kk : ∀ (H1 : Heap) (locs1 : List Loc) (sg1 : Sg), sg1 = up2 sg k i.toNatClampNeg (x &&& 1) → WS Z D cl T ad sg1 lg A H0 H1 locs1 → W p l e R s m args below meth c H1 locs1 cells slots Q (F0 m (pc + 1) ls rest)) : W p l e R s m args below meth c H locs cells slots Q (F0 m pc ls (.int x :: .int i :: .ref (ad k) :: rest)) := by
  subst hn
  refine va_zast hx hb hK hw.1 hw.2.1 hw.2.2 k t0 (by rw [zwd_get hk, zce_z hs]) ht hin hdg (fun H1 locs1 hP hD hS => kk H1 locs1 _ rfl ?_)
  have he := zwd_set (Z := Z) (T := T) (ad := ad) (sg := sg) (sg' := up2 sg k i.toNatClampNeg (x &&& 1)) (lg := lg) (lg' := lg) (k := k) _ (by rw [zce_z hs, hZ _ _ _ _ _ hk, up2_s]) (fun j hj => zce_n hZ hk hj)
  have hb1 : vp_nar .boolean x = x &&& 1 := rfl
  rw [hb1, he] at hP hD
  exact ⟨hP, hD, hS⟩
theorem r_last (hx : p.tables.exec = Jvm.exec) (hb : c.code = cc) (hK : va_K D cl tys s) (hw : WS Z D cl T ad sg lg A H0 H locs) (k t0 n : Nat) (hk : k < Z.1) (hs : (Z.2.2.1 k).1 = 3) (ht : tys[t0]? = some (T 3, .long)) (hn : Z.2.2.2 sg k = n) {i : Int32} {x : Int64} (hin : vp_in i n) (hdg : decode cc pc = .ok (.lastore, 1))
    (kk : ∀ (H1 : Heap) (locs1 : List Loc) (lg1 : Lg), lg1 = up2L lg k i.toNatClampNeg x → WS Z D cl T ad sg lg1 A H0 H1 locs1 → W p l e R s m args below meth c H1 locs1 cells slots Q (F0 m (pc + 1) ls rest)) : W p l e R s m args below meth c H locs cells slots Q (F0 m pc ls (.long x :: .int i :: .ref (ad k) :: rest)) := by
  subst hn
  refine va_last hx hb hK hw.1 hw.2.1 hw.2.2 k t0 (by rw [zwd_get hk, zce_l hs]) ht hin hdg (fun H1 locs1 hP hD hS => kk H1 locs1 _ rfl ?_)
  have he := zwd_set (Z := Z) (T := T) (ad := ad) (sg := sg) (sg' := sg) (lg := lg) (lg' := up2L lg k i.toNatClampNeg x) (k := k) _ (by rw [zce_l hs, up2L_s]) (fun j hj => zce_nL hj)
  rw [he] at hP hD
  exact ⟨hP, hD, hS⟩
theorem r_alen (hx : p.tables.exec = Jvm.exec) (hb : c.code = cc) (hK : va_K D cl tys s) (hw : WS Z D cl T ad sg lg A H0 H locs) (k t0 n : Nat) (hk : k < Z.1) (ka : Nat) (hs : (Z.2.2.1 k).1 = ka) (hka : ka < 4) {ty : FieldType} (ht : tys[t0]? = some (T ka, ty)) (hn : Z.2.2.2 sg k = n) {v : Int32} (hv : Int32.ofNat n = v) (hdg : decode cc pc = .ok (.arraylength, 1))
    (kk : W p l e R s m args below meth c H locs cells slots Q (F0 m (pc + 1) ls (.int v :: rest))) : W p l e R s m args below meth c H locs cells slots Q (F0 m pc ls (.ref (ad k) :: rest)) := by
  subst hn
  rcases (show ka = 0 ∨ ka = 1 ∨ ka = 2 ∨ ka = 3 by omega) with rfl | rfl | rfl | rfl
  · exact va_alen hx hb hK hw.1 k t0 (by rw [zwd_get hk, zce_i hs]) ht hv hdg kk
  · exact va_alen hx hb hK hw.1 k t0 (by rw [zwd_get hk, zce_b hs]) ht hv hdg kk
  · exact va_alen hx hb hK hw.1 k t0 (by rw [zwd_get hk, zce_z hs]) ht hv hdg kk
  · exact va_alen hx hb hK hw.1 k t0 (by rw [zwd_get hk, zce_l hs]) ht hv hdg kk
theorem r_getI (hx : p.tables.exec = Jvm.exec) (hb : c.code = cc) {own ref C : String} {U : u_T} {N ci index : Nat} {Ts : List Cond} (hts : ∀ w ∈ Ts, w.before args s = true) (hin : ∀ w ∈ u_ws C U N, w ∈ Ts) (hown : s.vm.findClass own = some m.cls) (hK : va_K D cl tys s) (hw : WS Z D cl T ad sg lg A H0 H locs) (k : Nat) (hk : k < Z.1) {fl : List (Option Nat)} (hs : Z.2.2.1 k = (ci + 5, fl)) (hc : cl[ci]? = some (C, U, N)) (j : Nat) (hj : j < N) (hf : fl[j]? = some none) (hlink : (Cond.fieldLink own index ref (U j).2.1 (U j).2.2.1).before args s = true) (hsame : ∀ x, s.fieldFound? (U j).1 (U j).2.1 (U j).2.2.1 = some x → s.fieldFound? ref (U j).2.1 (U j).2.2.1 = some x) (hdg : decode cc pc = .ok (.getfield index, 3))
    (kk : W p l e R s m args below meth c H locs cells slots Q (F0 m (pc + 3) ls (.int (sg k j) :: rest))) : W p l e R s m args below meth c H locs cells slots Q (F0 m pc ls (.ref (ad k) :: rest)) :=
  va_get (D := D) (ci := ci) (v := .int (sg k j)) hx hb hts hin hown hK hw.1 k (by rw [zwd_get hk, zce_o hs]) hc j hj hlink hsame (by have h := zfv_i ad (sg k) fl 0 j hf; rw [Nat.zero_add] at h; exact h) hdg kk
theorem r_getR (hx : p.tables.exec = Jvm.exec) (hb : c.code = cc) {own ref C : String} {U : u_T} {N ci index : Nat} {Ts : List Cond} (hts : ∀ w ∈ Ts, w.before args s = true) (hin : ∀ w ∈ u_ws C U N, w ∈ Ts) (hown : s.vm.findClass own = some m.cls) (hK : va_K D cl tys s) (hw : WS Z D cl T ad sg lg A H0 H locs) (k : Nat) (hk : k < Z.1) {fl : List (Option Nat)} (hs : Z.2.2.1 k = (ci + 5, fl)) (hc : cl[ci]? = some (C, U, N)) (j : Nat) (hj : j < N) (t : Nat) (hf : fl[j]? = some (some t)) (hlink : (Cond.fieldLink own index ref (U j).2.1 (U j).2.2.1).before args s = true) (hsame : ∀ x, s.fieldFound? (U j).1 (U j).2.1 (U j).2.2.1 = some x → s.fieldFound? ref (U j).2.1 (U j).2.2.1 = some x) (hdg : decode cc pc = .ok (.getfield index, 3))
    (kk : W p l e R s m args below meth c H locs cells slots Q (F0 m (pc + 3) ls (.ref (ad t) :: rest))) : W p l e R s m args below meth c H locs cells slots Q (F0 m pc ls (.ref (ad k) :: rest)) :=
  va_get (D := D) (ci := ci) (v := .ref (ad t)) hx hb hts hin hown hK hw.1 k (by rw [zwd_get hk, zce_o hs]) hc j hj hlink hsame (zfv_r ad (sg k) fl 0 j t hf) hdg kk
theorem r_putI (hZ : Zok Z) (hx : p.tables.exec = Jvm.exec) (hb : c.code = cc) {own ref C : String} {U : u_T} {N ci index : Nat} {Ts : List Cond} (hts : ∀ w ∈ Ts, w.before args s = true) (hin : ∀ w ∈ u_ws C U N, w ∈ Ts) (ty0 : Nat → FieldType) (hty : ∀ k, k < N → parseFieldDescriptor (U k).2.2.1 = some (ty0 k)) (hnm : ∀ a, a < N → ∀ b, b < N → a ≠ b → (U a).2.1 ≠ (U b).2.1) (hown : s.vm.findClass own = some m.cls) (hK : va_K D cl tys s) (hw : WS Z D cl T ad sg lg A H0 H locs) (k : Nat) (hk : k < Z.1) {fl : List (Option Nat)} (hs : Z.2.2.1 k = (ci + 5, fl)) (hc : cl[ci]? = some (C, U, N)) (j : Nat) (hj : j < N) (hf : fl[j]? = some none) (hlink : (Cond.fieldLink own index ref (U j).2.1 (U j).2.2.1).before args s = true) (hsame : ∀ x, s.fieldFound? (U j).1 (U j).2.1 (U j).2.2.1 = some x → s.fieldFound? ref (U j).2.1 (U j).2.2.1 = some x) (hfin : (U j).2.2.2 = false) {ty : FieldType} {v : Int32} (hd : parseFieldDescriptor (U j).2.2.1 = some ty) (hn : narrow ty (.int v) = .int v) (hfit : fits ty (.int v) = true) (hdg : decode cc pc = .ok (.putfield index, 3))
    (kk : ∀ (H1 : Heap) (locs1 : List Loc) (sg1 : Sg), sg1 = up2 sg k j v → WS Z D cl T ad sg1 lg A H0 H1 locs1 → W p l e R s m args below meth c H1 locs1 cells slots Q (F0 m (pc + 3) ls rest)) : W p l e R s m args below meth c H locs cells slots Q (F0 m pc ls (.int v :: .ref (ad k) :: rest)) := by
  have hlen : j < (zfv ad (sg k) 0 fl).length := by
    rw [zfv_len]; exact (List.getElem?_eq_some_iff.mp hf).1
  refine va_put (D := D) (ci := ci) hx hb hts hin ty0 hty hnm hown hK hw.1 hw.2.1 hw.2.2 k (by rw [zwd_get hk, zce_o hs]) hc j hj hlink hsame hfin hd hn hfit hlen hdg (fun H1 locs1 hP hD hS => kk H1 locs1 _ rfl ?_)
  have hset := zfv_set ad (sg k) v fl 0 j hf
  rw [Nat.zero_add] at hset
  have he := zwd_set (Z := Z) (T := T) (ad := ad) (sg := sg) (sg' := up2 sg k j v) (lg := lg) (lg' := lg) (k := k) _ (by rw [zce_o hs, up2_s, hset]) (fun i hi => zce_n hZ hk hi)
  rw [he] at hP hD
  exact ⟨hP, hD, hS⟩
end ZR
