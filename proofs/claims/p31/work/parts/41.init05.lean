-- PeckYard$Orders.<init>(LPeckYard$Muster;)V
theorem kX9_init_m3 : Cond.methodLink RX9 3 objectInit ∈ wsX9_init := by decide +kernel
theorem kX9_init_imO : Cond.instanceMethod objectInit ∈ wsX9_init := by decide +kernel
theorem kX9_init_cdO : Cond.code objectInit ⟨#[0xb1]⟩ 1 none ∈ wsX9_init := by decide +kernel
theorem kX9_init_f9 : Cond.fieldLink RX9 9 "PeckYard$Orders" "solvedAt" "I" ∈ wsX9_init := by decide +kernel
theorem kX9_init_iX9 : ∀ w ∈ u_ws RX9 TX9 11, w ∈ wsX9_init := by decide +kernel
theorem kX9_init_f15 : Cond.fieldLink RX9 15 "PeckYard$Orders" "agreedAt" "I" ∈ wsX9_init := by decide +kernel
theorem kX9_init_f18 : Cond.fieldLink RX9 18 "PeckYard$Orders" "loosenedAt" "I" ∈ wsX9_init := by decide +kernel
theorem kX9_init_ar_int : Cond.arrayClass .int ∈ wsX9_init := by decide +kernel
theorem kX9_init_f21 : Cond.fieldLink RX9 21 "PeckYard$Orders" "rest" "[I" ∈ wsX9_init := by decide +kernel
theorem kX9_init_f25 : Cond.fieldLink RX9 25 "PeckYard$Orders" "ways" "[I" ∈ wsX9_init := by decide +kernel
theorem kX9_init_f28 : Cond.fieldLink RX9 28 "PeckYard$Orders" "looseRest" "[I" ∈ wsX9_init := by decide +kernel
theorem kX9_init_ar_byte : Cond.arrayClass .byte ∈ wsX9_init := by decide +kernel
theorem kX9_init_f31 : Cond.fieldLink RX9 31 "PeckYard$Orders" "isOnWay" "[B" ∈ wsX9_init := by decide +kernel
theorem kX9_init_f35 : Cond.fieldLink RX9 35 "PeckYard$Orders" "mayBeBelow" "[I" ∈ wsX9_init := by decide +kernel
theorem kX9_init_f38 : Cond.fieldLink RX9 38 "PeckYard$Orders" "muster" "LPeckYard$Muster;" ∈ wsX9_init := by decide +kernel
theorem kX9_init_iX4 : ∀ w ∈ u_ws RX4 TX4 8, w ∈ wsX9_init := by decide +kernel
theorem kX9_init_cl42 : Cond.classLink RX9 42 RX4 ∈ wsX9_init := by decide +kernel
theorem kX9_init_inX4 : Cond.instantiable RX4 8 ∈ wsX9_init := by decide +kernel
theorem kX9_init_iniX4 : Cond.initialized RX4 ∈ wsX9_init := by decide +kernel
theorem kX9_init_m44 : Cond.methodLink RX9 44 yX4_init ∈ wsX9_init := by decide +kernel
theorem kX9_init_im_X4_init : Cond.instanceMethod yX4_init ∈ wsX9_init := by decide +kernel
theorem kX9_init_f47 : Cond.fieldLink RX9 47 "PeckYard$Orders" "halves" "LPeckYard$Halves;" ∈ wsX9_init := by decide +kernel
def rmX9_init : Room := { frames := 2, cells := 12, slots := 1816, locals := 41 }
set_option maxHeartbeats 1000000 in
set_option maxRecDepth 100000 in
theorem mX9_init (l : Launch) (D : va_G) (T : Nat → ClassId) (h0 p1 : Nat) (sz : Nat) : Met l yX9_init wsX9_init rmX9_init (va_Pc [.ref h0, .ref p1] (fun U => U.heap.size = sz ∧ va_P D vwCl [(h0, .inr (9, [.null, .null, .int 0, .int 0, .int 0, .int 0, .null, .null, .null, .null, .null]))] U.heap ∧ va_K D vwCl (tysC T) U ∧ va_D (fun _ => True) [(h0, .inr (9, [.null, .null, .int 0, .int 0, .int 0, .int 0, .null, .null, .null, .null, .null]))] ∧ (∀ w ∈ nwL, va_Nw w U) ∧ va_AO "PeckYard$Change" U)) (va_Qv (fun _ : Nat → Nat => True) (fun (u : Nat → Nat) t => va_P D vwCl [(h0, .inr (9, [.ref p1, .ref (u 5), .int (-1 : Int32), .int (-1 : Int32), .int (-1 : Int32), .int 0, .ref (u 0), .ref (u 1), .ref (u 2), .ref (u 3), .ref (u 4)])), ((u 0), .inl (T 0, 1, .inl (fun _ => 0))), ((u 1), .inl (T 0, 1, .inl (fun _ => 0))), ((u 2), .inl (T 0, 1, .inl (fun _ => 0))), ((u 3), .inl (T 1, 1, .inl (fun _ => 0))), ((u 4), .inl (T 0, 12, .inl (fun _ => 0))), ((u 5), .inr (4, [.ref p1, .int (-1 : Int32), .ref (u 6), .ref (u 7), .ref (u 8), .ref (u 9), .ref (u 10), .ref (u 11)])), ((u 6), .inl (T 0, 768, .inl (fun _ => 0))), ((u 7), .inl (T 0, 768, .inl (fun _ => 0))), ((u 8), .inl (T 0, 64, .inl (fun _ => 0))), ((u 9), .inl (T 0, 64, .inl (fun _ => 0))), ((u 10), .inl (T 0, 64, .inl (fun _ => 0))), ((u 11), .inl (T 0, 64, .inl (fun _ => 0)))] t.heap ∧ va_K D vwCl (tysC T) t ∧ va_D (va_A [(h0, .inr (9, [.null, .null, .int 0, .int 0, .int 0, .int 0, .null, .null, .null, .null, .null]))] sz) [(h0, .inr (9, [.ref p1, .ref (u 5), .int (-1 : Int32), .int (-1 : Int32), .int (-1 : Int32), .int 0, .ref (u 0), .ref (u 1), .ref (u 2), .ref (u 3), .ref (u 4)])), ((u 0), .inl (T 0, 1, .inl (fun _ => 0))), ((u 1), .inl (T 0, 1, .inl (fun _ => 0))), ((u 2), .inl (T 0, 1, .inl (fun _ => 0))), ((u 3), .inl (T 1, 1, .inl (fun _ => 0))), ((u 4), .inl (T 0, 12, .inl (fun _ => 0))), ((u 5), .inr (4, [.ref p1, .int (-1 : Int32), .ref (u 6), .ref (u 7), .ref (u 8), .ref (u 9), .ref (u 10), .ref (u 11)])), ((u 6), .inl (T 0, 768, .inl (fun _ => 0))), ((u 7), .inl (T 0, 768, .inl (fun _ => 0))), ((u 8), .inl (T 0, 64, .inl (fun _ => 0))), ((u 9), .inl (T 0, 64, .inl (fun _ => 0))), ((u 10), .inl (T 0, 64, .inl (fun _ => 0))), ((u 11), .inl (T 0, 64, .inl (fun _ => 0)))]) (va_A [(h0, .inr (9, [.null, .null, .int 0, .int 0, .int 0, .int 0, .null, .null, .null, .null, .null]))] sz)) 12 1816 (va_A [(h0, .inr (9, [.null, .null, .int 0, .int 0, .int 0, .int 0, .null, .null, .null, .null, .null]))] sz) := by
  refine Met.ofW (cc := cX9_init) (maxL := 2) (ret := none) (by decide) rfl ?_
  intro p e s m args below meth c s₁ B hml hv
  obtain ⟨rfl, hsz, hP, hK, hD0, hnw, hao⟩ := hv
  have hx := B.exec
  have hb := B.bytes
  have hr := B.returns
  have hts := atoms_spec (ws := wsX9_init) B.pre
  have hown : s.vm.findClass RX9 = some m.cls := findClass_of_methodNamed B.named
  have hlocks := B.notSynchronized
  have hin : meth.name = "<init>" := (name_of_methodNamed B.named B.method).1
  subst hsz
  have hD := hD0.self (sz := s.heap.size)
  generalize hAe : va_A [(h0, .inr (9, [.null, .null, .int 0, .int 0, .int 0, .int 0, .null, .null, .null, .null, .null]))] s.heap.size = A at hD ⊢
  have hA : ∀ q : Nat, s.heap.size ≤ q → A q := fun q h => by rw [← hAe]; exact Or.inr h
  have hS : va_S A s.heap s.heap [] := va_S.rf
  have hP : va_P D vwCl [(h0, .inr (9, [.null, .null, .int 0, .int 0, .int 0, .int 0, .null, .null, .null, .null, .null]))] s.heap := hP
  have hl := lv_entry [.ref h0, .ref p1] (n := 2) (Nat.le_of_ble_eq_true rfl)
  rw [lg_entry_eq]
  generalize (lg_sl [.ref h0, .ref p1] ++ List.replicate (2 - (lg_sl [.ref h0, .ref p1]).length) Slot.unset).toArray = ls at hl ⊢
  have hl : lv_has ls 2 [(0, .ref h0), (1, .ref p1)] := hl
  refine lv_aload_n hx hb dX9_init_0 rfl (lv_at hl 0 rfl) ?_
  refine W.objInit hx hb hown (hts _ kX9_init_m3) (hts _ kX9_init_imO) (hts _ kX9_init_cdO) rfl (by rw [hml]; exact hl.1) rfl dX9_init_1 (Nat.le_of_ble_eq_true rfl) (Nat.le_of_ble_eq_true rfl) ?_
  refine W.eq (g2 := F0 m 4 ls []) rfl ?_
  refine lv_aload_n hx hb dX9_init_4 rfl (lv_at hl 0 rfl) ?_
  refine lv_iconst (v := (-1 : Int32)) hx hb dX9_init_5 (by decide) ?_
  refine va_put (D := D) (ci := 9) (v := .int (-1 : Int32)) (ty := .int) (C := RX9) (T := TX9) (N := 11) hx hb hts kX9_init_iX9 tyX9 tyX9_ok nmX9 hown hK hP hD hS 0 rfl rfl 2 (by decide) (hts _ kX9_init_f9) (fun _ h9 => h9) rfl (by decide +kernel) rfl rfl (Nat.le_of_ble_eq_true rfl) dX9_init_6 (fun H locs hP hD hS => ?_)
  have hP : va_P D vwCl [(h0, .inr (9, [.null, .null, .int (-1 : Int32), .int 0, .int 0, .int 0, .null, .null, .null, .null, .null]))] H := hP
  have hD : va_D A [(h0, .inr (9, [.null, .null, .int (-1 : Int32), .int 0, .int 0, .int 0, .null, .null, .null, .null, .null]))] := hD
  refine lv_aload_n hx hb dX9_init_9 rfl (lv_at hl 0 rfl) ?_
  refine lv_iconst (v := (-1 : Int32)) hx hb dX9_init_10 (by decide) ?_
  refine va_put (D := D) (ci := 9) (v := .int (-1 : Int32)) (ty := .int) (C := RX9) (T := TX9) (N := 11) hx hb hts kX9_init_iX9 tyX9 tyX9_ok nmX9 hown hK hP hD hS 0 rfl rfl 3 (by decide) (hts _ kX9_init_f15) (fun _ h9 => h9) rfl (by decide +kernel) rfl rfl (Nat.le_of_ble_eq_true rfl) dX9_init_11 (fun H locs hP hD hS => ?_)
  have hP : va_P D vwCl [(h0, .inr (9, [.null, .null, .int (-1 : Int32), .int (-1 : Int32), .int 0, .int 0, .null, .null, .null, .null, .null]))] H := hP
  have hD : va_D A [(h0, .inr (9, [.null, .null, .int (-1 : Int32), .int (-1 : Int32), .int 0, .int 0, .null, .null, .null, .null, .null]))] := hD
  refine lv_aload_n hx hb dX9_init_14 rfl (lv_at hl 0 rfl) ?_
  refine lv_iconst (v := (-1 : Int32)) hx hb dX9_init_15 (by decide) ?_
  refine va_put (D := D) (ci := 9) (v := .int (-1 : Int32)) (ty := .int) (C := RX9) (T := TX9) (N := 11) hx hb hts kX9_init_iX9 tyX9 tyX9_ok nmX9 hown hK hP hD hS 0 rfl rfl 4 (by decide) (hts _ kX9_init_f18) (fun _ h9 => h9) rfl (by decide +kernel) rfl rfl (Nat.le_of_ble_eq_true rfl) dX9_init_16 (fun H locs hP hD hS => ?_)
  have hP : va_P D vwCl [(h0, .inr (9, [.null, .null, .int (-1 : Int32), .int (-1 : Int32), .int (-1 : Int32), .int 0, .null, .null, .null, .null, .null]))] H := hP
  have hD : va_D A [(h0, .inr (9, [.null, .null, .int (-1 : Int32), .int (-1 : Int32), .int (-1 : Int32), .int 0, .null, .null, .null, .null, .null]))] := hD
  refine lv_aload_n hx hb dX9_init_19 rfl (lv_at hl 0 rfl) ?_
  refine lv_iconst (v := (1 : Int32)) hx hb dX9_init_20 (by decide) ?_
  refine r_newa (tys := tysC T) (atype := .int) (a0 := (1, .inl (fun _ => 0))) hx hb (hts _ kX9_init_ar_int) rfl (fun _ h9 => by cases h9) 0 rfl hK hP hD hS hA (fun _ => rfl) (by decide) (N' := 1) rfl (by decide) (Nat.le_of_ble_eq_true rfl) (Nat.le_of_ble_eq_true rfl) dX9_init_21 (fun q1 H hP hD hS => ?_)
  have hP : va_P D vwCl [(h0, .inr (9, [.null, .null, .int (-1 : Int32), .int (-1 : Int32), .int (-1 : Int32), .int 0, .null, .null, .null, .null, .null])), (q1, .inl (T 0, 1, .inl (fun _ => 0)))] H := hP
  have hD : va_D A [(h0, .inr (9, [.null, .null, .int (-1 : Int32), .int (-1 : Int32), .int (-1 : Int32), .int 0, .null, .null, .null, .null, .null])), (q1, .inl (T 0, 1, .inl (fun _ => 0)))] := hD
  refine W.widen (k := 1) (n := 1) (by decide) (by decide) ?_
  refine va_put (D := D) (ci := 9) (v := .ref q1) (ty := (.array .int)) (C := RX9) (T := TX9) (N := 11) hx hb hts kX9_init_iX9 tyX9 tyX9_ok nmX9 hown hK hP hD hS 0 rfl rfl 6 (by decide) (hts _ kX9_init_f21) (fun _ h9 => h9) rfl (by decide +kernel) rfl rfl (Nat.le_of_ble_eq_true rfl) dX9_init_23 (fun H locs hP hD hS => ?_)
  have hP : va_P D vwCl [(h0, .inr (9, [.null, .null, .int (-1 : Int32), .int (-1 : Int32), .int (-1 : Int32), .int 0, .ref q1, .null, .null, .null, .null])), (q1, .inl (T 0, 1, .inl (fun _ => 0)))] H := hP
  have hD : va_D A [(h0, .inr (9, [.null, .null, .int (-1 : Int32), .int (-1 : Int32), .int (-1 : Int32), .int 0, .ref q1, .null, .null, .null, .null])), (q1, .inl (T 0, 1, .inl (fun _ => 0)))] := hD
  refine lv_aload_n hx hb dX9_init_26 rfl (lv_at hl 0 rfl) ?_
  refine lv_iconst (v := (1 : Int32)) hx hb dX9_init_27 (by decide) ?_
  refine r_newa (tys := tysC T) (atype := .int) (a0 := (1, .inl (fun _ => 0))) hx hb (hts _ kX9_init_ar_int) rfl (fun _ h9 => by cases h9) 0 rfl hK hP hD hS hA (fun _ => rfl) (by decide) (N' := 1) rfl (by decide) (Nat.le_of_ble_eq_true rfl) (Nat.le_of_ble_eq_true rfl) dX9_init_28 (fun q2 H hP hD hS => ?_)
  have hP : va_P D vwCl [(h0, .inr (9, [.null, .null, .int (-1 : Int32), .int (-1 : Int32), .int (-1 : Int32), .int 0, .ref q1, .null, .null, .null, .null])), (q1, .inl (T 0, 1, .inl (fun _ => 0))), (q2, .inl (T 0, 1, .inl (fun _ => 0)))] H := hP
  have hD : va_D A [(h0, .inr (9, [.null, .null, .int (-1 : Int32), .int (-1 : Int32), .int (-1 : Int32), .int 0, .ref q1, .null, .null, .null, .null])), (q1, .inl (T 0, 1, .inl (fun _ => 0))), (q2, .inl (T 0, 1, .inl (fun _ => 0)))] := hD
  refine W.widen (k := 2) (n := 2) (by decide) (by decide) ?_
  refine va_put (D := D) (ci := 9) (v := .ref q2) (ty := (.array .int)) (C := RX9) (T := TX9) (N := 11) hx hb hts kX9_init_iX9 tyX9 tyX9_ok nmX9 hown hK hP hD hS 0 rfl rfl 7 (by decide) (hts _ kX9_init_f25) (fun _ h9 => h9) rfl (by decide +kernel) rfl rfl (Nat.le_of_ble_eq_true rfl) dX9_init_30 (fun H locs hP hD hS => ?_)
  have hP : va_P D vwCl [(h0, .inr (9, [.null, .null, .int (-1 : Int32), .int (-1 : Int32), .int (-1 : Int32), .int 0, .ref q1, .ref q2, .null, .null, .null])), (q1, .inl (T 0, 1, .inl (fun _ => 0))), (q2, .inl (T 0, 1, .inl (fun _ => 0)))] H := hP
  have hD : va_D A [(h0, .inr (9, [.null, .null, .int (-1 : Int32), .int (-1 : Int32), .int (-1 : Int32), .int 0, .ref q1, .ref q2, .null, .null, .null])), (q1, .inl (T 0, 1, .inl (fun _ => 0))), (q2, .inl (T 0, 1, .inl (fun _ => 0)))] := hD
  refine lv_aload_n hx hb dX9_init_33 rfl (lv_at hl 0 rfl) ?_
  refine lv_iconst (v := (1 : Int32)) hx hb dX9_init_34 (by decide) ?_
  refine r_newa (tys := tysC T) (atype := .int) (a0 := (1, .inl (fun _ => 0))) hx hb (hts _ kX9_init_ar_int) rfl (fun _ h9 => by cases h9) 0 rfl hK hP hD hS hA (fun _ => rfl) (by decide) (N' := 1) rfl (by decide) (Nat.le_of_ble_eq_true rfl) (Nat.le_of_ble_eq_true rfl) dX9_init_35 (fun q3 H hP hD hS => ?_)
  have hP : va_P D vwCl [(h0, .inr (9, [.null, .null, .int (-1 : Int32), .int (-1 : Int32), .int (-1 : Int32), .int 0, .ref q1, .ref q2, .null, .null, .null])), (q1, .inl (T 0, 1, .inl (fun _ => 0))), (q2, .inl (T 0, 1, .inl (fun _ => 0))), (q3, .inl (T 0, 1, .inl (fun _ => 0)))] H := hP
  have hD : va_D A [(h0, .inr (9, [.null, .null, .int (-1 : Int32), .int (-1 : Int32), .int (-1 : Int32), .int 0, .ref q1, .ref q2, .null, .null, .null])), (q1, .inl (T 0, 1, .inl (fun _ => 0))), (q2, .inl (T 0, 1, .inl (fun _ => 0))), (q3, .inl (T 0, 1, .inl (fun _ => 0)))] := hD
  refine W.widen (k := 3) (n := 3) (by decide) (by decide) ?_
  refine va_put (D := D) (ci := 9) (v := .ref q3) (ty := (.array .int)) (C := RX9) (T := TX9) (N := 11) hx hb hts kX9_init_iX9 tyX9 tyX9_ok nmX9 hown hK hP hD hS 0 rfl rfl 8 (by decide) (hts _ kX9_init_f28) (fun _ h9 => h9) rfl (by decide +kernel) rfl rfl (Nat.le_of_ble_eq_true rfl) dX9_init_37 (fun H locs hP hD hS => ?_)
  have hP : va_P D vwCl [(h0, .inr (9, [.null, .null, .int (-1 : Int32), .int (-1 : Int32), .int (-1 : Int32), .int 0, .ref q1, .ref q2, .ref q3, .null, .null])), (q1, .inl (T 0, 1, .inl (fun _ => 0))), (q2, .inl (T 0, 1, .inl (fun _ => 0))), (q3, .inl (T 0, 1, .inl (fun _ => 0)))] H := hP
  have hD : va_D A [(h0, .inr (9, [.null, .null, .int (-1 : Int32), .int (-1 : Int32), .int (-1 : Int32), .int 0, .ref q1, .ref q2, .ref q3, .null, .null])), (q1, .inl (T 0, 1, .inl (fun _ => 0))), (q2, .inl (T 0, 1, .inl (fun _ => 0))), (q3, .inl (T 0, 1, .inl (fun _ => 0)))] := hD
  refine lv_aload_n hx hb dX9_init_40 rfl (lv_at hl 0 rfl) ?_
  refine lv_iconst (v := (1 : Int32)) hx hb dX9_init_41 (by decide) ?_
  refine r_newa (tys := tysC T) (atype := .byte) (a0 := (1, .inl (fun _ => 0))) hx hb (hts _ kX9_init_ar_byte) rfl (fun _ h9 => by cases h9) 1 rfl hK hP hD hS hA (fun _ => rfl) (by decide) (N' := 1) rfl (by decide) (Nat.le_of_ble_eq_true rfl) (Nat.le_of_ble_eq_true rfl) dX9_init_42 (fun q4 H hP hD hS => ?_)
  have hP : va_P D vwCl [(h0, .inr (9, [.null, .null, .int (-1 : Int32), .int (-1 : Int32), .int (-1 : Int32), .int 0, .ref q1, .ref q2, .ref q3, .null, .null])), (q1, .inl (T 0, 1, .inl (fun _ => 0))), (q2, .inl (T 0, 1, .inl (fun _ => 0))), (q3, .inl (T 0, 1, .inl (fun _ => 0))), (q4, .inl (T 1, 1, .inl (fun _ => 0)))] H := hP
  have hD : va_D A [(h0, .inr (9, [.null, .null, .int (-1 : Int32), .int (-1 : Int32), .int (-1 : Int32), .int 0, .ref q1, .ref q2, .ref q3, .null, .null])), (q1, .inl (T 0, 1, .inl (fun _ => 0))), (q2, .inl (T 0, 1, .inl (fun _ => 0))), (q3, .inl (T 0, 1, .inl (fun _ => 0))), (q4, .inl (T 1, 1, .inl (fun _ => 0)))] := hD
  refine W.widen (k := 4) (n := 4) (by decide) (by decide) ?_
  refine va_put (D := D) (ci := 9) (v := .ref q4) (ty := (.array .byte)) (C := RX9) (T := TX9) (N := 11) hx hb hts kX9_init_iX9 tyX9 tyX9_ok nmX9 hown hK hP hD hS 0 rfl rfl 9 (by decide) (hts _ kX9_init_f31) (fun _ h9 => h9) rfl (by decide +kernel) rfl rfl (Nat.le_of_ble_eq_true rfl) dX9_init_44 (fun H locs hP hD hS => ?_)
  have hP : va_P D vwCl [(h0, .inr (9, [.null, .null, .int (-1 : Int32), .int (-1 : Int32), .int (-1 : Int32), .int 0, .ref q1, .ref q2, .ref q3, .ref q4, .null])), (q1, .inl (T 0, 1, .inl (fun _ => 0))), (q2, .inl (T 0, 1, .inl (fun _ => 0))), (q3, .inl (T 0, 1, .inl (fun _ => 0))), (q4, .inl (T 1, 1, .inl (fun _ => 0)))] H := hP
  have hD : va_D A [(h0, .inr (9, [.null, .null, .int (-1 : Int32), .int (-1 : Int32), .int (-1 : Int32), .int 0, .ref q1, .ref q2, .ref q3, .ref q4, .null])), (q1, .inl (T 0, 1, .inl (fun _ => 0))), (q2, .inl (T 0, 1, .inl (fun _ => 0))), (q3, .inl (T 0, 1, .inl (fun _ => 0))), (q4, .inl (T 1, 1, .inl (fun _ => 0)))] := hD
  refine lv_aload_n hx hb dX9_init_47 rfl (lv_at hl 0 rfl) ?_
  refine lv_bipush (v := (12 : Int32)) hx hb dX9_init_48 (by decide) ?_
  refine r_newa (tys := tysC T) (atype := .int) (a0 := (12, .inl (fun _ => 0))) hx hb (hts _ kX9_init_ar_int) rfl (fun _ h9 => by cases h9) 0 rfl hK hP hD hS hA (fun _ => rfl) (by decide) (N' := 12) rfl (by decide) (Nat.le_of_ble_eq_true rfl) (Nat.le_of_ble_eq_true rfl) dX9_init_50 (fun q5 H hP hD hS => ?_)
  have hP : va_P D vwCl [(h0, .inr (9, [.null, .null, .int (-1 : Int32), .int (-1 : Int32), .int (-1 : Int32), .int 0, .ref q1, .ref q2, .ref q3, .ref q4, .null])), (q1, .inl (T 0, 1, .inl (fun _ => 0))), (q2, .inl (T 0, 1, .inl (fun _ => 0))), (q3, .inl (T 0, 1, .inl (fun _ => 0))), (q4, .inl (T 1, 1, .inl (fun _ => 0))), (q5, .inl (T 0, 12, .inl (fun _ => 0)))] H := hP
  have hD : va_D A [(h0, .inr (9, [.null, .null, .int (-1 : Int32), .int (-1 : Int32), .int (-1 : Int32), .int 0, .ref q1, .ref q2, .ref q3, .ref q4, .null])), (q1, .inl (T 0, 1, .inl (fun _ => 0))), (q2, .inl (T 0, 1, .inl (fun _ => 0))), (q3, .inl (T 0, 1, .inl (fun _ => 0))), (q4, .inl (T 1, 1, .inl (fun _ => 0))), (q5, .inl (T 0, 12, .inl (fun _ => 0)))] := hD
  refine W.widen (k := 5) (n := 16) (by decide) (by decide) ?_
  refine va_putF (D := D) (ci := 9) (v := .ref q5) (ty := (.array .int)) (C := RX9) (T := TX9) (N := 11) hx hb hts kX9_init_iX9 tyX9 tyX9_ok nmX9 hown hK hP hD hS 0 rfl rfl 10 (by decide) (hts _ kX9_init_f35) (fun _ h9 => h9) rfl hin rfl (by decide +kernel) rfl rfl (Nat.le_of_ble_eq_true rfl) dX9_init_52 (fun H locs hP hD hS => ?_)
  have hP : va_P D vwCl [(h0, .inr (9, [.null, .null, .int (-1 : Int32), .int (-1 : Int32), .int (-1 : Int32), .int 0, .ref q1, .ref q2, .ref q3, .ref q4, .ref q5])), (q1, .inl (T 0, 1, .inl (fun _ => 0))), (q2, .inl (T 0, 1, .inl (fun _ => 0))), (q3, .inl (T 0, 1, .inl (fun _ => 0))), (q4, .inl (T 1, 1, .inl (fun _ => 0))), (q5, .inl (T 0, 12, .inl (fun _ => 0)))] H := hP
  have hD : va_D A [(h0, .inr (9, [.null, .null, .int (-1 : Int32), .int (-1 : Int32), .int (-1 : Int32), .int 0, .ref q1, .ref q2, .ref q3, .ref q4, .ref q5])), (q1, .inl (T 0, 1, .inl (fun _ => 0))), (q2, .inl (T 0, 1, .inl (fun _ => 0))), (q3, .inl (T 0, 1, .inl (fun _ => 0))), (q4, .inl (T 1, 1, .inl (fun _ => 0))), (q5, .inl (T 0, 12, .inl (fun _ => 0)))] := hD
  refine lv_aload_n hx hb dX9_init_55 rfl (lv_at hl 0 rfl) ?_
  refine lv_aload_n hx hb dX9_init_56 rfl (lv_at hl 1 rfl) ?_
  refine va_putF (D := D) (ci := 9) (v := .ref p1) (ty := (.object "PeckYard$Muster")) (C := RX9) (T := TX9) (N := 11) hx hb hts kX9_init_iX9 tyX9 tyX9_ok nmX9 hown hK hP hD hS 0 rfl rfl 0 (by decide) (hts _ kX9_init_f38) (fun _ h9 => h9) rfl hin rfl (by decide +kernel) rfl rfl (Nat.le_of_ble_eq_true rfl) dX9_init_57 (fun H locs hP hD hS => ?_)
  have hP : va_P D vwCl [(h0, .inr (9, [.ref p1, .null, .int (-1 : Int32), .int (-1 : Int32), .int (-1 : Int32), .int 0, .ref q1, .ref q2, .ref q3, .ref q4, .ref q5])), (q1, .inl (T 0, 1, .inl (fun _ => 0))), (q2, .inl (T 0, 1, .inl (fun _ => 0))), (q3, .inl (T 0, 1, .inl (fun _ => 0))), (q4, .inl (T 1, 1, .inl (fun _ => 0))), (q5, .inl (T 0, 12, .inl (fun _ => 0)))] H := hP
  have hD : va_D A [(h0, .inr (9, [.ref p1, .null, .int (-1 : Int32), .int (-1 : Int32), .int (-1 : Int32), .int 0, .ref q1, .ref q2, .ref q3, .ref q4, .ref q5])), (q1, .inl (T 0, 1, .inl (fun _ => 0))), (q2, .inl (T 0, 1, .inl (fun _ => 0))), (q3, .inl (T 0, 1, .inl (fun _ => 0))), (q4, .inl (T 1, 1, .inl (fun _ => 0))), (q5, .inl (T 0, 12, .inl (fun _ => 0)))] := hD
  refine lv_aload_n hx hb dX9_init_60 rfl (lv_at hl 0 rfl) ?_
  refine va_new (ci := 4) (fs := [.null, .int 0, .null, .null, .null, .null, .null, .null]) (C := RX4) (T := TX4) (N := 8) hx hb hts kX9_init_iX4 tyX4 tyX4_ok hown (hts _ kX9_init_cl42) (hts _ kX9_init_inX4) (hts _ kX9_init_iniX4) hK hP hD hS hA rfl (fun j hj => by rcases (show j = 0 ∨ j = 1 ∨ j = 2 ∨ j = 3 ∨ j = 4 ∨ j = 5 ∨ j = 6 ∨ j = 7 by omega) with rfl | rfl | rfl | rfl | rfl | rfl | rfl | rfl <;> rfl) (Nat.le_of_ble_eq_true rfl) (Nat.le_of_ble_eq_true rfl) dX9_init_61 (fun q6 H hP hD hS => ?_)
  have hP : va_P D vwCl [(h0, .inr (9, [.ref p1, .null, .int (-1 : Int32), .int (-1 : Int32), .int (-1 : Int32), .int 0, .ref q1, .ref q2, .ref q3, .ref q4, .ref q5])), (q1, .inl (T 0, 1, .inl (fun _ => 0))), (q2, .inl (T 0, 1, .inl (fun _ => 0))), (q3, .inl (T 0, 1, .inl (fun _ => 0))), (q4, .inl (T 1, 1, .inl (fun _ => 0))), (q5, .inl (T 0, 12, .inl (fun _ => 0))), (q6, .inr (4, [.null, .int 0, .null, .null, .null, .null, .null, .null]))] H := hP
  have hD : va_D A [(h0, .inr (9, [.ref p1, .null, .int (-1 : Int32), .int (-1 : Int32), .int (-1 : Int32), .int 0, .ref q1, .ref q2, .ref q3, .ref q4, .ref q5])), (q1, .inl (T 0, 1, .inl (fun _ => 0))), (q2, .inl (T 0, 1, .inl (fun _ => 0))), (q3, .inl (T 0, 1, .inl (fun _ => 0))), (q4, .inl (T 1, 1, .inl (fun _ => 0))), (q5, .inl (T 0, 12, .inl (fun _ => 0))), (q6, .inr (4, [.null, .int 0, .null, .null, .null, .null, .null, .null]))] := hD
  refine W.widen (k := 6) (n := 24) (by decide) (by decide) ?_
  refine lv_dup hx hb dX9_init_64 rfl ?_
  refine lv_aload_n hx hb dX9_init_65 rfl (lv_at hl 1 rfl) ?_
  have hPc := hP.sub (ws' := [(q6, .inr (4, [.null, .int 0, .null, .null, .null, .null, .null, .null]))]) [6] rfl
  have hDc := hD.sub (ws' := [(q6, .inr (4, [.null, .int 0, .null, .null, .null, .null, .null, .null]))]) [6] (by decide) rfl
  have hFc := va_free (wc := [(q6, .inr (4, [.null, .int 0, .null, .null, .null, .null, .null, .null]))]) hD hS hA [6] rfl
  refine va_callv (va_runI (As := [.ref p1]) (rest := [.ref q6, .ref h0]) ⟨hx, hb, hml, hown, hts⟩ (mX4_init l D T q6 p1 H.size) (cwI 1 hts gX9_init_X4_init rfl rfl rfl (hts _ kX9_init_iniX4) (hts _ kX9_init_m44) (hts _ kX9_init_im_X4_init) rfl (by decide +kernel) ⟨Nat.le_of_ble_eq_true rfl, Nat.le_of_ble_eq_true rfl⟩) ⟨fun a U g mk q => by obtain ⟨q0, q1, qP, qK, qD, qN, qO⟩ := q; exact ⟨q0, q1, qP, va_K.moved (u := U) (U := U.calling g mk a) (Vm.Alike.refl U.vm) qK, qD, fun w hw => NestW.same (s := U) (U := U.calling g mk a) (nwL_nest w hw) rfl (qN w hw), qO⟩, fun U hU hW => ⟨rfl, by rw [hU], by rw [hU]; exact hPc, va_K.moved hW.alike hK, hDc.weaken (fun _ _ _ _ => trivial), fun w hw => (nwL_nest w hw).warm hW (hnw w hw), hao.moved hW.alike⟩⟩ rfl rfl hl.1 rfl (lv_room (Nat.le_of_ble_eq_true rfl)) dX9_init_66 ⟨Nat.le_of_ble_eq_true rfl, Nat.le_of_ble_eq_true rfl⟩) hS (fun q _ h => hFc q h) hFc (fun u t H1 locs ht hvm hw hB hz1 hk1 hS => ?_)
  obtain ⟨u7, rfl⟩ : ∃ z, z = u := ⟨_, rfl⟩
  obtain ⟨hP1, hK1, hD1⟩ := hB
  rw [ht] at hP1
  obtain ⟨hP, hD⟩ := va_join (wr := [(h0, .inr (9, [.ref p1, .null, .int (-1 : Int32), .int (-1 : Int32), .int (-1 : Int32), .int 0, .ref q1, .ref q2, .ref q3, .ref q4, .ref q5])), (q1, .inl (T 0, 1, .inl (fun _ => 0))), (q2, .inl (T 0, 1, .inl (fun _ => 0))), (q3, .inl (T 0, 1, .inl (fun _ => 0))), (q4, .inl (T 1, 1, .inl (fun _ => 0))), (q5, .inl (T 0, 12, .inl (fun _ => 0)))]) (w1 := [(q6, .inr (4, [.ref p1, .int (-1 : Int32), .ref (u7 0), .ref (u7 1), .ref (u7 2), .ref (u7 3), .ref (u7 4), .ref (u7 5)])), ((u7 0), .inl (T 0, 768, .inl (fun _ => 0))), ((u7 1), .inl (T 0, 768, .inl (fun _ => 0))), ((u7 2), .inl (T 0, 64, .inl (fun _ => 0))), ((u7 3), .inl (T 0, 64, .inl (fun _ => 0))), ((u7 4), .inl (T 0, 64, .inl (fun _ => 0))), ((u7 5), .inl (T 0, 64, .inl (fun _ => 0)))]) hP hD [6] [0, 1, 2, 3, 4, 5] rfl rfl (by decide +kernel) (by decide +kernel) hk1 hFc hP1 hD1
  generalize H1 = H at hP hS ⊢
  have hP : va_P D vwCl [(h0, .inr (9, [.ref p1, .null, .int (-1 : Int32), .int (-1 : Int32), .int (-1 : Int32), .int 0, .ref q1, .ref q2, .ref q3, .ref q4, .ref q5])), (q1, .inl (T 0, 1, .inl (fun _ => 0))), (q2, .inl (T 0, 1, .inl (fun _ => 0))), (q3, .inl (T 0, 1, .inl (fun _ => 0))), (q4, .inl (T 1, 1, .inl (fun _ => 0))), (q5, .inl (T 0, 12, .inl (fun _ => 0))), (q6, .inr (4, [.ref p1, .int (-1 : Int32), .ref (u7 0), .ref (u7 1), .ref (u7 2), .ref (u7 3), .ref (u7 4), .ref (u7 5)])), ((u7 0), .inl (T 0, 768, .inl (fun _ => 0))), ((u7 1), .inl (T 0, 768, .inl (fun _ => 0))), ((u7 2), .inl (T 0, 64, .inl (fun _ => 0))), ((u7 3), .inl (T 0, 64, .inl (fun _ => 0))), ((u7 4), .inl (T 0, 64, .inl (fun _ => 0))), ((u7 5), .inl (T 0, 64, .inl (fun _ => 0)))] H := hP
  have hD : va_D A [(h0, .inr (9, [.ref p1, .null, .int (-1 : Int32), .int (-1 : Int32), .int (-1 : Int32), .int 0, .ref q1, .ref q2, .ref q3, .ref q4, .ref q5])), (q1, .inl (T 0, 1, .inl (fun _ => 0))), (q2, .inl (T 0, 1, .inl (fun _ => 0))), (q3, .inl (T 0, 1, .inl (fun _ => 0))), (q4, .inl (T 1, 1, .inl (fun _ => 0))), (q5, .inl (T 0, 12, .inl (fun _ => 0))), (q6, .inr (4, [.ref p1, .int (-1 : Int32), .ref (u7 0), .ref (u7 1), .ref (u7 2), .ref (u7 3), .ref (u7 4), .ref (u7 5)])), ((u7 0), .inl (T 0, 768, .inl (fun _ => 0))), ((u7 1), .inl (T 0, 768, .inl (fun _ => 0))), ((u7 2), .inl (T 0, 64, .inl (fun _ => 0))), ((u7 3), .inl (T 0, 64, .inl (fun _ => 0))), ((u7 4), .inl (T 0, 64, .inl (fun _ => 0))), ((u7 5), .inl (T 0, 64, .inl (fun _ => 0)))] := hD
  refine W.widen (k := 12) (n := 1816) (by decide) (by decide) ?_
  refine va_putF (D := D) (ci := 9) (v := .ref q6) (ty := (.object "PeckYard$Halves")) (C := RX9) (T := TX9) (N := 11) hx hb hts kX9_init_iX9 tyX9 tyX9_ok nmX9 hown hK hP hD hS 0 rfl rfl 1 (by decide) (hts _ kX9_init_f47) (fun _ h9 => h9) rfl hin rfl (by decide +kernel) rfl rfl (Nat.le_of_ble_eq_true rfl) dX9_init_69 (fun H locs hP hD hS => ?_)
  have hP : va_P D vwCl [(h0, .inr (9, [.ref p1, .ref q6, .int (-1 : Int32), .int (-1 : Int32), .int (-1 : Int32), .int 0, .ref q1, .ref q2, .ref q3, .ref q4, .ref q5])), (q1, .inl (T 0, 1, .inl (fun _ => 0))), (q2, .inl (T 0, 1, .inl (fun _ => 0))), (q3, .inl (T 0, 1, .inl (fun _ => 0))), (q4, .inl (T 1, 1, .inl (fun _ => 0))), (q5, .inl (T 0, 12, .inl (fun _ => 0))), (q6, .inr (4, [.ref p1, .int (-1 : Int32), .ref (u7 0), .ref (u7 1), .ref (u7 2), .ref (u7 3), .ref (u7 4), .ref (u7 5)])), ((u7 0), .inl (T 0, 768, .inl (fun _ => 0))), ((u7 1), .inl (T 0, 768, .inl (fun _ => 0))), ((u7 2), .inl (T 0, 64, .inl (fun _ => 0))), ((u7 3), .inl (T 0, 64, .inl (fun _ => 0))), ((u7 4), .inl (T 0, 64, .inl (fun _ => 0))), ((u7 5), .inl (T 0, 64, .inl (fun _ => 0)))] H := hP
  have hD : va_D A [(h0, .inr (9, [.ref p1, .ref q6, .int (-1 : Int32), .int (-1 : Int32), .int (-1 : Int32), .int 0, .ref q1, .ref q2, .ref q3, .ref q4, .ref q5])), (q1, .inl (T 0, 1, .inl (fun _ => 0))), (q2, .inl (T 0, 1, .inl (fun _ => 0))), (q3, .inl (T 0, 1, .inl (fun _ => 0))), (q4, .inl (T 1, 1, .inl (fun _ => 0))), (q5, .inl (T 0, 12, .inl (fun _ => 0))), (q6, .inr (4, [.ref p1, .int (-1 : Int32), .ref (u7 0), .ref (u7 1), .ref (u7 2), .ref (u7 3), .ref (u7 4), .ref (u7 5)])), ((u7 0), .inl (T 0, 768, .inl (fun _ => 0))), ((u7 1), .inl (T 0, 768, .inl (fun _ => 0))), ((u7 2), .inl (T 0, 64, .inl (fun _ => 0))), ((u7 3), .inl (T 0, 64, .inl (fun _ => 0))), ((u7 4), .inl (T 0, 64, .inl (fun _ => 0))), ((u7 5), .inl (T 0, 64, .inl (fun _ => 0)))] := hD
  exact W.vret hx hb hr (fun t ht hW => ⟨⟨(fun k => [q1, q2, q3, q4, q5, q6, (u7 0), (u7 1), (u7 2), (u7 3), (u7 4), (u7 5)].getD k 0), rfl, trivial, by rw [ht]; exact hP, va_K.moved hW.alike hK, hD⟩, hS.F ht⟩) hS.2.2 dX9_init_72
