-- PeckYard$Rings.<init>(LPeckYard$Muster;)V
theorem kX10_init_m3 : Cond.methodLink RX10 3 objectInit ∈ wsX10_init := by decide +kernel
theorem kX10_init_imO : Cond.instanceMethod objectInit ∈ wsX10_init := by decide +kernel
theorem kX10_init_cdO : Cond.code objectInit ⟨#[0xb1]⟩ 1 none ∈ wsX10_init := by decide +kernel
theorem kX10_init_ar_int : Cond.arrayClass .int ∈ wsX10_init := by decide +kernel
theorem kX10_init_f11 : Cond.fieldLink RX10 11 "PeckYard$Rings" "shares" "[I" ∈ wsX10_init := by decide +kernel
theorem kX10_init_iX10 : ∀ w ∈ u_ws RX10 TX10 10, w ∈ wsX10_init := by decide +kernel
theorem kX10_init_f15 : Cond.fieldLink RX10 15 "PeckYard$Rings" "lengths" "[I" ∈ wsX10_init := by decide +kernel
theorem kX10_init_f18 : Cond.fieldLink RX10 18 "PeckYard$Rings" "members" "[I" ∈ wsX10_init := by decide +kernel
theorem kX10_init_f21 : Cond.fieldLink RX10 21 "PeckYard$Rings" "left" "[I" ∈ wsX10_init := by decide +kernel
theorem kX10_init_f24 : Cond.fieldLink RX10 24 "PeckYard$Rings" "peckedBy" "[I" ∈ wsX10_init := by decide +kernel
theorem kX10_init_f27 : Cond.fieldLink RX10 27 "PeckYard$Rings" "peckersOf" "[I" ∈ wsX10_init := by decide +kernel
theorem kX10_init_f30 : Cond.fieldLink RX10 30 "PeckYard$Rings" "layers" "[I" ∈ wsX10_init := by decide +kernel
theorem kX10_init_f33 : Cond.fieldLink RX10 33 "PeckYard$Rings" "found" "[I" ∈ wsX10_init := by decide +kernel
theorem kX10_init_f36 : Cond.fieldLink RX10 36 "PeckYard$Rings" "muster" "LPeckYard$Muster;" ∈ wsX10_init := by decide +kernel
def rmX10_init : Room := { frames := 1, cells := 8, slots := 2040, locals := 20 }
set_option maxHeartbeats 1000000 in
set_option maxRecDepth 100000 in
theorem mX10_init (l : Launch) (D : va_G) (T : Nat → ClassId) (h0 p1 : Nat) (sz : Nat) : Met l yX10_init wsX10_init rmX10_init (va_Pc [.ref h0, .ref p1] (fun U => U.heap.size = sz ∧ va_P D vwCl [(h0, .inr (10, [.null, .int 0, .null, .null, .null, .null, .null, .null, .null, .null]))] U.heap ∧ va_K D vwCl (tysC T) U ∧ va_D (fun _ => True) [(h0, .inr (10, [.null, .int 0, .null, .null, .null, .null, .null, .null, .null, .null]))] ∧ (∀ w ∈ nwL, va_Nw w U) ∧ va_AO "PeckYard$Change" U)) (va_Qv (fun _ : Nat → Nat => True) (fun (u : Nat → Nat) t => va_P D vwCl [(h0, .inr (10, [.ref p1, .int 0, .ref (u 0), .ref (u 1), .ref (u 2), .ref (u 3), .ref (u 4), .ref (u 5), .ref (u 6), .ref (u 7)])), ((u 0), .inl (T 0, 132, .inl (fun _ => 0))), ((u 1), .inl (T 0, 132, .inl (fun _ => 0))), ((u 2), .inl (T 0, 1584, .inl (fun _ => 0))), ((u 3), .inl (T 0, 144, .inl (fun _ => 0))), ((u 4), .inl (T 0, 12, .inl (fun _ => 0))), ((u 5), .inl (T 0, 12, .inl (fun _ => 0))), ((u 6), .inl (T 0, 12, .inl (fun _ => 0))), ((u 7), .inl (T 0, 12, .inl (fun _ => 0)))] t.heap ∧ va_K D vwCl (tysC T) t ∧ va_D (va_A [(h0, .inr (10, [.null, .int 0, .null, .null, .null, .null, .null, .null, .null, .null]))] sz) [(h0, .inr (10, [.ref p1, .int 0, .ref (u 0), .ref (u 1), .ref (u 2), .ref (u 3), .ref (u 4), .ref (u 5), .ref (u 6), .ref (u 7)])), ((u 0), .inl (T 0, 132, .inl (fun _ => 0))), ((u 1), .inl (T 0, 132, .inl (fun _ => 0))), ((u 2), .inl (T 0, 1584, .inl (fun _ => 0))), ((u 3), .inl (T 0, 144, .inl (fun _ => 0))), ((u 4), .inl (T 0, 12, .inl (fun _ => 0))), ((u 5), .inl (T 0, 12, .inl (fun _ => 0))), ((u 6), .inl (T 0, 12, .inl (fun _ => 0))), ((u 7), .inl (T 0, 12, .inl (fun _ => 0)))]) (va_A [(h0, .inr (10, [.null, .int 0, .null, .null, .null, .null, .null, .null, .null, .null]))] sz)) 8 2040 (va_A [(h0, .inr (10, [.null, .int 0, .null, .null, .null, .null, .null, .null, .null, .null]))] sz) := by
  refine Met.ofW (cc := cX10_init) (maxL := 2) (ret := none) (by decide) rfl ?_
  intro p e s m args below meth c s₁ B hml hv
  obtain ⟨rfl, hsz, hP, hK, hD0, hnw, hao⟩ := hv
  have hx := B.exec
  have hb := B.bytes
  have hr := B.returns
  have hts := atoms_spec (ws := wsX10_init) B.pre
  have hown : s.vm.findClass RX10 = some m.cls := findClass_of_methodNamed B.named
  have hlocks := B.notSynchronized
  have hin : meth.name = "<init>" := (name_of_methodNamed B.named B.method).1
  subst hsz
  have hD := hD0.self (sz := s.heap.size)
  generalize hAe : va_A [(h0, .inr (10, [.null, .int 0, .null, .null, .null, .null, .null, .null, .null, .null]))] s.heap.size = A at hD ⊢
  have hA : ∀ q : Nat, s.heap.size ≤ q → A q := fun q h => by rw [← hAe]; exact Or.inr h
  have hS : va_S A s.heap s.heap [] := va_S.rf
  have hP : va_P D vwCl [(h0, .inr (10, [.null, .int 0, .null, .null, .null, .null, .null, .null, .null, .null]))] s.heap := hP
  have hl := lv_entry [.ref h0, .ref p1] (n := 2) (Nat.le_of_ble_eq_true rfl)
  rw [lg_entry_eq]
  generalize (lg_sl [.ref h0, .ref p1] ++ List.replicate (2 - (lg_sl [.ref h0, .ref p1]).length) Slot.unset).toArray = ls at hl ⊢
  have hl : lv_has ls 2 [(0, .ref h0), (1, .ref p1)] := hl
  refine lv_aload_n hx hb dX10_init_0 rfl (lv_at hl 0 rfl) ?_
  refine W.objInit hx hb hown (hts _ kX10_init_m3) (hts _ kX10_init_imO) (hts _ kX10_init_cdO) rfl (by rw [hml]; exact hl.1) rfl dX10_init_1 (Nat.le_of_ble_eq_true rfl) (Nat.le_of_ble_eq_true rfl) ?_
  refine W.eq (g2 := F0 m 4 ls []) rfl ?_
  refine lv_aload_n hx hb dX10_init_4 rfl (lv_at hl 0 rfl) ?_
  refine lv_sipush (v := (132 : Int32)) hx hb dX10_init_5 (by decide) ?_
  refine r_newa (tys := tysC T) (atype := .int) (a0 := (132, .inl (fun _ => 0))) hx hb (hts _ kX10_init_ar_int) rfl (fun _ h9 => by cases h9) 0 rfl hK hP hD hS hA (fun _ => rfl) (by decide) (N' := 132) rfl (by decide) (Nat.le_of_ble_eq_true rfl) (Nat.le_of_ble_eq_true rfl) dX10_init_8 (fun q1 H hP hD hS => ?_)
  have hP : va_P D vwCl [(h0, .inr (10, [.null, .int 0, .null, .null, .null, .null, .null, .null, .null, .null])), (q1, .inl (T 0, 132, .inl (fun _ => 0)))] H := hP
  have hD : va_D A [(h0, .inr (10, [.null, .int 0, .null, .null, .null, .null, .null, .null, .null, .null])), (q1, .inl (T 0, 132, .inl (fun _ => 0)))] := hD
  refine W.widen (k := 1) (n := 132) (by decide) (by decide) ?_
  refine va_putF (D := D) (ci := 10) (v := .ref q1) (ty := (.array .int)) (C := RX10) (T := TX10) (N := 10) hx hb hts kX10_init_iX10 tyX10 tyX10_ok nmX10 hown hK hP hD hS 0 rfl rfl 2 (by decide) (hts _ kX10_init_f11) (fun _ h9 => h9) rfl hin rfl (by decide +kernel) rfl rfl (Nat.le_of_ble_eq_true rfl) dX10_init_10 (fun H locs hP hD hS => ?_)
  have hP : va_P D vwCl [(h0, .inr (10, [.null, .int 0, .ref q1, .null, .null, .null, .null, .null, .null, .null])), (q1, .inl (T 0, 132, .inl (fun _ => 0)))] H := hP
  have hD : va_D A [(h0, .inr (10, [.null, .int 0, .ref q1, .null, .null, .null, .null, .null, .null, .null])), (q1, .inl (T 0, 132, .inl (fun _ => 0)))] := hD
  refine lv_aload_n hx hb dX10_init_13 rfl (lv_at hl 0 rfl) ?_
  refine lv_sipush (v := (132 : Int32)) hx hb dX10_init_14 (by decide) ?_
  refine r_newa (tys := tysC T) (atype := .int) (a0 := (132, .inl (fun _ => 0))) hx hb (hts _ kX10_init_ar_int) rfl (fun _ h9 => by cases h9) 0 rfl hK hP hD hS hA (fun _ => rfl) (by decide) (N' := 132) rfl (by decide) (Nat.le_of_ble_eq_true rfl) (Nat.le_of_ble_eq_true rfl) dX10_init_17 (fun q2 H hP hD hS => ?_)
  have hP : va_P D vwCl [(h0, .inr (10, [.null, .int 0, .ref q1, .null, .null, .null, .null, .null, .null, .null])), (q1, .inl (T 0, 132, .inl (fun _ => 0))), (q2, .inl (T 0, 132, .inl (fun _ => 0)))] H := hP
  have hD : va_D A [(h0, .inr (10, [.null, .int 0, .ref q1, .null, .null, .null, .null, .null, .null, .null])), (q1, .inl (T 0, 132, .inl (fun _ => 0))), (q2, .inl (T 0, 132, .inl (fun _ => 0)))] := hD
  refine W.widen (k := 2) (n := 264) (by decide) (by decide) ?_
  refine va_putF (D := D) (ci := 10) (v := .ref q2) (ty := (.array .int)) (C := RX10) (T := TX10) (N := 10) hx hb hts kX10_init_iX10 tyX10 tyX10_ok nmX10 hown hK hP hD hS 0 rfl rfl 3 (by decide) (hts _ kX10_init_f15) (fun _ h9 => h9) rfl hin rfl (by decide +kernel) rfl rfl (Nat.le_of_ble_eq_true rfl) dX10_init_19 (fun H locs hP hD hS => ?_)
  have hP : va_P D vwCl [(h0, .inr (10, [.null, .int 0, .ref q1, .ref q2, .null, .null, .null, .null, .null, .null])), (q1, .inl (T 0, 132, .inl (fun _ => 0))), (q2, .inl (T 0, 132, .inl (fun _ => 0)))] H := hP
  have hD : va_D A [(h0, .inr (10, [.null, .int 0, .ref q1, .ref q2, .null, .null, .null, .null, .null, .null])), (q1, .inl (T 0, 132, .inl (fun _ => 0))), (q2, .inl (T 0, 132, .inl (fun _ => 0)))] := hD
  refine lv_aload_n hx hb dX10_init_22 rfl (lv_at hl 0 rfl) ?_
  refine lv_sipush (v := (1584 : Int32)) hx hb dX10_init_23 (by decide) ?_
  refine r_newa (tys := tysC T) (atype := .int) (a0 := (1584, .inl (fun _ => 0))) hx hb (hts _ kX10_init_ar_int) rfl (fun _ h9 => by cases h9) 0 rfl hK hP hD hS hA (fun _ => rfl) (by decide) (N' := 1584) rfl (by decide) (Nat.le_of_ble_eq_true rfl) (Nat.le_of_ble_eq_true rfl) dX10_init_26 (fun q3 H hP hD hS => ?_)
  have hP : va_P D vwCl [(h0, .inr (10, [.null, .int 0, .ref q1, .ref q2, .null, .null, .null, .null, .null, .null])), (q1, .inl (T 0, 132, .inl (fun _ => 0))), (q2, .inl (T 0, 132, .inl (fun _ => 0))), (q3, .inl (T 0, 1584, .inl (fun _ => 0)))] H := hP
  have hD : va_D A [(h0, .inr (10, [.null, .int 0, .ref q1, .ref q2, .null, .null, .null, .null, .null, .null])), (q1, .inl (T 0, 132, .inl (fun _ => 0))), (q2, .inl (T 0, 132, .inl (fun _ => 0))), (q3, .inl (T 0, 1584, .inl (fun _ => 0)))] := hD
  refine W.widen (k := 3) (n := 1848) (by decide) (by decide) ?_
  refine va_putF (D := D) (ci := 10) (v := .ref q3) (ty := (.array .int)) (C := RX10) (T := TX10) (N := 10) hx hb hts kX10_init_iX10 tyX10 tyX10_ok nmX10 hown hK hP hD hS 0 rfl rfl 4 (by decide) (hts _ kX10_init_f18) (fun _ h9 => h9) rfl hin rfl (by decide +kernel) rfl rfl (Nat.le_of_ble_eq_true rfl) dX10_init_28 (fun H locs hP hD hS => ?_)
  have hP : va_P D vwCl [(h0, .inr (10, [.null, .int 0, .ref q1, .ref q2, .ref q3, .null, .null, .null, .null, .null])), (q1, .inl (T 0, 132, .inl (fun _ => 0))), (q2, .inl (T 0, 132, .inl (fun _ => 0))), (q3, .inl (T 0, 1584, .inl (fun _ => 0)))] H := hP
  have hD : va_D A [(h0, .inr (10, [.null, .int 0, .ref q1, .ref q2, .ref q3, .null, .null, .null, .null, .null])), (q1, .inl (T 0, 132, .inl (fun _ => 0))), (q2, .inl (T 0, 132, .inl (fun _ => 0))), (q3, .inl (T 0, 1584, .inl (fun _ => 0)))] := hD
  refine lv_aload_n hx hb dX10_init_31 rfl (lv_at hl 0 rfl) ?_
  refine lv_sipush (v := (144 : Int32)) hx hb dX10_init_32 (by decide) ?_
  refine r_newa (tys := tysC T) (atype := .int) (a0 := (144, .inl (fun _ => 0))) hx hb (hts _ kX10_init_ar_int) rfl (fun _ h9 => by cases h9) 0 rfl hK hP hD hS hA (fun _ => rfl) (by decide) (N' := 144) rfl (by decide) (Nat.le_of_ble_eq_true rfl) (Nat.le_of_ble_eq_true rfl) dX10_init_35 (fun q4 H hP hD hS => ?_)
  have hP : va_P D vwCl [(h0, .inr (10, [.null, .int 0, .ref q1, .ref q2, .ref q3, .null, .null, .null, .null, .null])), (q1, .inl (T 0, 132, .inl (fun _ => 0))), (q2, .inl (T 0, 132, .inl (fun _ => 0))), (q3, .inl (T 0, 1584, .inl (fun _ => 0))), (q4, .inl (T 0, 144, .inl (fun _ => 0)))] H := hP
  have hD : va_D A [(h0, .inr (10, [.null, .int 0, .ref q1, .ref q2, .ref q3, .null, .null, .null, .null, .null])), (q1, .inl (T 0, 132, .inl (fun _ => 0))), (q2, .inl (T 0, 132, .inl (fun _ => 0))), (q3, .inl (T 0, 1584, .inl (fun _ => 0))), (q4, .inl (T 0, 144, .inl (fun _ => 0)))] := hD
  refine W.widen (k := 4) (n := 1992) (by decide) (by decide) ?_
  refine va_putF (D := D) (ci := 10) (v := .ref q4) (ty := (.array .int)) (C := RX10) (T := TX10) (N := 10) hx hb hts kX10_init_iX10 tyX10 tyX10_ok nmX10 hown hK hP hD hS 0 rfl rfl 5 (by decide) (hts _ kX10_init_f21) (fun _ h9 => h9) rfl hin rfl (by decide +kernel) rfl rfl (Nat.le_of_ble_eq_true rfl) dX10_init_37 (fun H locs hP hD hS => ?_)
  have hP : va_P D vwCl [(h0, .inr (10, [.null, .int 0, .ref q1, .ref q2, .ref q3, .ref q4, .null, .null, .null, .null])), (q1, .inl (T 0, 132, .inl (fun _ => 0))), (q2, .inl (T 0, 132, .inl (fun _ => 0))), (q3, .inl (T 0, 1584, .inl (fun _ => 0))), (q4, .inl (T 0, 144, .inl (fun _ => 0)))] H := hP
  have hD : va_D A [(h0, .inr (10, [.null, .int 0, .ref q1, .ref q2, .ref q3, .ref q4, .null, .null, .null, .null])), (q1, .inl (T 0, 132, .inl (fun _ => 0))), (q2, .inl (T 0, 132, .inl (fun _ => 0))), (q3, .inl (T 0, 1584, .inl (fun _ => 0))), (q4, .inl (T 0, 144, .inl (fun _ => 0)))] := hD
  refine lv_aload_n hx hb dX10_init_40 rfl (lv_at hl 0 rfl) ?_
  refine lv_bipush (v := (12 : Int32)) hx hb dX10_init_41 (by decide) ?_
  refine r_newa (tys := tysC T) (atype := .int) (a0 := (12, .inl (fun _ => 0))) hx hb (hts _ kX10_init_ar_int) rfl (fun _ h9 => by cases h9) 0 rfl hK hP hD hS hA (fun _ => rfl) (by decide) (N' := 12) rfl (by decide) (Nat.le_of_ble_eq_true rfl) (Nat.le_of_ble_eq_true rfl) dX10_init_43 (fun q5 H hP hD hS => ?_)
  have hP : va_P D vwCl [(h0, .inr (10, [.null, .int 0, .ref q1, .ref q2, .ref q3, .ref q4, .null, .null, .null, .null])), (q1, .inl (T 0, 132, .inl (fun _ => 0))), (q2, .inl (T 0, 132, .inl (fun _ => 0))), (q3, .inl (T 0, 1584, .inl (fun _ => 0))), (q4, .inl (T 0, 144, .inl (fun _ => 0))), (q5, .inl (T 0, 12, .inl (fun _ => 0)))] H := hP
  have hD : va_D A [(h0, .inr (10, [.null, .int 0, .ref q1, .ref q2, .ref q3, .ref q4, .null, .null, .null, .null])), (q1, .inl (T 0, 132, .inl (fun _ => 0))), (q2, .inl (T 0, 132, .inl (fun _ => 0))), (q3, .inl (T 0, 1584, .inl (fun _ => 0))), (q4, .inl (T 0, 144, .inl (fun _ => 0))), (q5, .inl (T 0, 12, .inl (fun _ => 0)))] := hD
  refine W.widen (k := 5) (n := 2004) (by decide) (by decide) ?_
  refine va_putF (D := D) (ci := 10) (v := .ref q5) (ty := (.array .int)) (C := RX10) (T := TX10) (N := 10) hx hb hts kX10_init_iX10 tyX10 tyX10_ok nmX10 hown hK hP hD hS 0 rfl rfl 6 (by decide) (hts _ kX10_init_f24) (fun _ h9 => h9) rfl hin rfl (by decide +kernel) rfl rfl (Nat.le_of_ble_eq_true rfl) dX10_init_45 (fun H locs hP hD hS => ?_)
  have hP : va_P D vwCl [(h0, .inr (10, [.null, .int 0, .ref q1, .ref q2, .ref q3, .ref q4, .ref q5, .null, .null, .null])), (q1, .inl (T 0, 132, .inl (fun _ => 0))), (q2, .inl (T 0, 132, .inl (fun _ => 0))), (q3, .inl (T 0, 1584, .inl (fun _ => 0))), (q4, .inl (T 0, 144, .inl (fun _ => 0))), (q5, .inl (T 0, 12, .inl (fun _ => 0)))] H := hP
  have hD : va_D A [(h0, .inr (10, [.null, .int 0, .ref q1, .ref q2, .ref q3, .ref q4, .ref q5, .null, .null, .null])), (q1, .inl (T 0, 132, .inl (fun _ => 0))), (q2, .inl (T 0, 132, .inl (fun _ => 0))), (q3, .inl (T 0, 1584, .inl (fun _ => 0))), (q4, .inl (T 0, 144, .inl (fun _ => 0))), (q5, .inl (T 0, 12, .inl (fun _ => 0)))] := hD
  refine lv_aload_n hx hb dX10_init_48 rfl (lv_at hl 0 rfl) ?_
  refine lv_bipush (v := (12 : Int32)) hx hb dX10_init_49 (by decide) ?_
  refine r_newa (tys := tysC T) (atype := .int) (a0 := (12, .inl (fun _ => 0))) hx hb (hts _ kX10_init_ar_int) rfl (fun _ h9 => by cases h9) 0 rfl hK hP hD hS hA (fun _ => rfl) (by decide) (N' := 12) rfl (by decide) (Nat.le_of_ble_eq_true rfl) (Nat.le_of_ble_eq_true rfl) dX10_init_51 (fun q6 H hP hD hS => ?_)
  have hP : va_P D vwCl [(h0, .inr (10, [.null, .int 0, .ref q1, .ref q2, .ref q3, .ref q4, .ref q5, .null, .null, .null])), (q1, .inl (T 0, 132, .inl (fun _ => 0))), (q2, .inl (T 0, 132, .inl (fun _ => 0))), (q3, .inl (T 0, 1584, .inl (fun _ => 0))), (q4, .inl (T 0, 144, .inl (fun _ => 0))), (q5, .inl (T 0, 12, .inl (fun _ => 0))), (q6, .inl (T 0, 12, .inl (fun _ => 0)))] H := hP
  have hD : va_D A [(h0, .inr (10, [.null, .int 0, .ref q1, .ref q2, .ref q3, .ref q4, .ref q5, .null, .null, .null])), (q1, .inl (T 0, 132, .inl (fun _ => 0))), (q2, .inl (T 0, 132, .inl (fun _ => 0))), (q3, .inl (T 0, 1584, .inl (fun _ => 0))), (q4, .inl (T 0, 144, .inl (fun _ => 0))), (q5, .inl (T 0, 12, .inl (fun _ => 0))), (q6, .inl (T 0, 12, .inl (fun _ => 0)))] := hD
  refine W.widen (k := 6) (n := 2016) (by decide) (by decide) ?_
  refine va_putF (D := D) (ci := 10) (v := .ref q6) (ty := (.array .int)) (C := RX10) (T := TX10) (N := 10) hx hb hts kX10_init_iX10 tyX10 tyX10_ok nmX10 hown hK hP hD hS 0 rfl rfl 7 (by decide) (hts _ kX10_init_f27) (fun _ h9 => h9) rfl hin rfl (by decide +kernel) rfl rfl (Nat.le_of_ble_eq_true rfl) dX10_init_53 (fun H locs hP hD hS => ?_)
  have hP : va_P D vwCl [(h0, .inr (10, [.null, .int 0, .ref q1, .ref q2, .ref q3, .ref q4, .ref q5, .ref q6, .null, .null])), (q1, .inl (T 0, 132, .inl (fun _ => 0))), (q2, .inl (T 0, 132, .inl (fun _ => 0))), (q3, .inl (T 0, 1584, .inl (fun _ => 0))), (q4, .inl (T 0, 144, .inl (fun _ => 0))), (q5, .inl (T 0, 12, .inl (fun _ => 0))), (q6, .inl (T 0, 12, .inl (fun _ => 0)))] H := hP
  have hD : va_D A [(h0, .inr (10, [.null, .int 0, .ref q1, .ref q2, .ref q3, .ref q4, .ref q5, .ref q6, .null, .null])), (q1, .inl (T 0, 132, .inl (fun _ => 0))), (q2, .inl (T 0, 132, .inl (fun _ => 0))), (q3, .inl (T 0, 1584, .inl (fun _ => 0))), (q4, .inl (T 0, 144, .inl (fun _ => 0))), (q5, .inl (T 0, 12, .inl (fun _ => 0))), (q6, .inl (T 0, 12, .inl (fun _ => 0)))] := hD
  refine lv_aload_n hx hb dX10_init_56 rfl (lv_at hl 0 rfl) ?_
  refine lv_bipush (v := (12 : Int32)) hx hb dX10_init_57 (by decide) ?_
  refine r_newa (tys := tysC T) (atype := .int) (a0 := (12, .inl (fun _ => 0))) hx hb (hts _ kX10_init_ar_int) rfl (fun _ h9 => by cases h9) 0 rfl hK hP hD hS hA (fun _ => rfl) (by decide) (N' := 12) rfl (by decide) (Nat.le_of_ble_eq_true rfl) (Nat.le_of_ble_eq_true rfl) dX10_init_59 (fun q7 H hP hD hS => ?_)
  have hP : va_P D vwCl [(h0, .inr (10, [.null, .int 0, .ref q1, .ref q2, .ref q3, .ref q4, .ref q5, .ref q6, .null, .null])), (q1, .inl (T 0, 132, .inl (fun _ => 0))), (q2, .inl (T 0, 132, .inl (fun _ => 0))), (q3, .inl (T 0, 1584, .inl (fun _ => 0))), (q4, .inl (T 0, 144, .inl (fun _ => 0))), (q5, .inl (T 0, 12, .inl (fun _ => 0))), (q6, .inl (T 0, 12, .inl (fun _ => 0))), (q7, .inl (T 0, 12, .inl (fun _ => 0)))] H := hP
  have hD : va_D A [(h0, .inr (10, [.null, .int 0, .ref q1, .ref q2, .ref q3, .ref q4, .ref q5, .ref q6, .null, .null])), (q1, .inl (T 0, 132, .inl (fun _ => 0))), (q2, .inl (T 0, 132, .inl (fun _ => 0))), (q3, .inl (T 0, 1584, .inl (fun _ => 0))), (q4, .inl (T 0, 144, .inl (fun _ => 0))), (q5, .inl (T 0, 12, .inl (fun _ => 0))), (q6, .inl (T 0, 12, .inl (fun _ => 0))), (q7, .inl (T 0, 12, .inl (fun _ => 0)))] := hD
  refine W.widen (k := 7) (n := 2028) (by decide) (by decide) ?_
  refine va_putF (D := D) (ci := 10) (v := .ref q7) (ty := (.array .int)) (C := RX10) (T := TX10) (N := 10) hx hb hts kX10_init_iX10 tyX10 tyX10_ok nmX10 hown hK hP hD hS 0 rfl rfl 8 (by decide) (hts _ kX10_init_f30) (fun _ h9 => h9) rfl hin rfl (by decide +kernel) rfl rfl (Nat.le_of_ble_eq_true rfl) dX10_init_61 (fun H locs hP hD hS => ?_)
  have hP : va_P D vwCl [(h0, .inr (10, [.null, .int 0, .ref q1, .ref q2, .ref q3, .ref q4, .ref q5, .ref q6, .ref q7, .null])), (q1, .inl (T 0, 132, .inl (fun _ => 0))), (q2, .inl (T 0, 132, .inl (fun _ => 0))), (q3, .inl (T 0, 1584, .inl (fun _ => 0))), (q4, .inl (T 0, 144, .inl (fun _ => 0))), (q5, .inl (T 0, 12, .inl (fun _ => 0))), (q6, .inl (T 0, 12, .inl (fun _ => 0))), (q7, .inl (T 0, 12, .inl (fun _ => 0)))] H := hP
  have hD : va_D A [(h0, .inr (10, [.null, .int 0, .ref q1, .ref q2, .ref q3, .ref q4, .ref q5, .ref q6, .ref q7, .null])), (q1, .inl (T 0, 132, .inl (fun _ => 0))), (q2, .inl (T 0, 132, .inl (fun _ => 0))), (q3, .inl (T 0, 1584, .inl (fun _ => 0))), (q4, .inl (T 0, 144, .inl (fun _ => 0))), (q5, .inl (T 0, 12, .inl (fun _ => 0))), (q6, .inl (T 0, 12, .inl (fun _ => 0))), (q7, .inl (T 0, 12, .inl (fun _ => 0)))] := hD
  refine lv_aload_n hx hb dX10_init_64 rfl (lv_at hl 0 rfl) ?_
  refine lv_bipush (v := (12 : Int32)) hx hb dX10_init_65 (by decide) ?_
  refine r_newa (tys := tysC T) (atype := .int) (a0 := (12, .inl (fun _ => 0))) hx hb (hts _ kX10_init_ar_int) rfl (fun _ h9 => by cases h9) 0 rfl hK hP hD hS hA (fun _ => rfl) (by decide) (N' := 12) rfl (by decide) (Nat.le_of_ble_eq_true rfl) (Nat.le_of_ble_eq_true rfl) dX10_init_67 (fun q8 H hP hD hS => ?_)
  have hP : va_P D vwCl [(h0, .inr (10, [.null, .int 0, .ref q1, .ref q2, .ref q3, .ref q4, .ref q5, .ref q6, .ref q7, .null])), (q1, .inl (T 0, 132, .inl (fun _ => 0))), (q2, .inl (T 0, 132, .inl (fun _ => 0))), (q3, .inl (T 0, 1584, .inl (fun _ => 0))), (q4, .inl (T 0, 144, .inl (fun _ => 0))), (q5, .inl (T 0, 12, .inl (fun _ => 0))), (q6, .inl (T 0, 12, .inl (fun _ => 0))), (q7, .inl (T 0, 12, .inl (fun _ => 0))), (q8, .inl (T 0, 12, .inl (fun _ => 0)))] H := hP
  have hD : va_D A [(h0, .inr (10, [.null, .int 0, .ref q1, .ref q2, .ref q3, .ref q4, .ref q5, .ref q6, .ref q7, .null])), (q1, .inl (T 0, 132, .inl (fun _ => 0))), (q2, .inl (T 0, 132, .inl (fun _ => 0))), (q3, .inl (T 0, 1584, .inl (fun _ => 0))), (q4, .inl (T 0, 144, .inl (fun _ => 0))), (q5, .inl (T 0, 12, .inl (fun _ => 0))), (q6, .inl (T 0, 12, .inl (fun _ => 0))), (q7, .inl (T 0, 12, .inl (fun _ => 0))), (q8, .inl (T 0, 12, .inl (fun _ => 0)))] := hD
  refine W.widen (k := 8) (n := 2040) (by decide) (by decide) ?_
  refine va_putF (D := D) (ci := 10) (v := .ref q8) (ty := (.array .int)) (C := RX10) (T := TX10) (N := 10) hx hb hts kX10_init_iX10 tyX10 tyX10_ok nmX10 hown hK hP hD hS 0 rfl rfl 9 (by decide) (hts _ kX10_init_f33) (fun _ h9 => h9) rfl hin rfl (by decide +kernel) rfl rfl (Nat.le_of_ble_eq_true rfl) dX10_init_69 (fun H locs hP hD hS => ?_)
  have hP : va_P D vwCl [(h0, .inr (10, [.null, .int 0, .ref q1, .ref q2, .ref q3, .ref q4, .ref q5, .ref q6, .ref q7, .ref q8])), (q1, .inl (T 0, 132, .inl (fun _ => 0))), (q2, .inl (T 0, 132, .inl (fun _ => 0))), (q3, .inl (T 0, 1584, .inl (fun _ => 0))), (q4, .inl (T 0, 144, .inl (fun _ => 0))), (q5, .inl (T 0, 12, .inl (fun _ => 0))), (q6, .inl (T 0, 12, .inl (fun _ => 0))), (q7, .inl (T 0, 12, .inl (fun _ => 0))), (q8, .inl (T 0, 12, .inl (fun _ => 0)))] H := hP
  have hD : va_D A [(h0, .inr (10, [.null, .int 0, .ref q1, .ref q2, .ref q3, .ref q4, .ref q5, .ref q6, .ref q7, .ref q8])), (q1, .inl (T 0, 132, .inl (fun _ => 0))), (q2, .inl (T 0, 132, .inl (fun _ => 0))), (q3, .inl (T 0, 1584, .inl (fun _ => 0))), (q4, .inl (T 0, 144, .inl (fun _ => 0))), (q5, .inl (T 0, 12, .inl (fun _ => 0))), (q6, .inl (T 0, 12, .inl (fun _ => 0))), (q7, .inl (T 0, 12, .inl (fun _ => 0))), (q8, .inl (T 0, 12, .inl (fun _ => 0)))] := hD
  refine lv_aload_n hx hb dX10_init_72 rfl (lv_at hl 0 rfl) ?_
  refine lv_aload_n hx hb dX10_init_73 rfl (lv_at hl 1 rfl) ?_
  refine va_putF (D := D) (ci := 10) (v := .ref p1) (ty := (.object "PeckYard$Muster")) (C := RX10) (T := TX10) (N := 10) hx hb hts kX10_init_iX10 tyX10 tyX10_ok nmX10 hown hK hP hD hS 0 rfl rfl 0 (by decide) (hts _ kX10_init_f36) (fun _ h9 => h9) rfl hin rfl (by decide +kernel) rfl rfl (Nat.le_of_ble_eq_true rfl) dX10_init_74 (fun H locs hP hD hS => ?_)
  have hP : va_P D vwCl [(h0, .inr (10, [.ref p1, .int 0, .ref q1, .ref q2, .ref q3, .ref q4, .ref q5, .ref q6, .ref q7, .ref q8])), (q1, .inl (T 0, 132, .inl (fun _ => 0))), (q2, .inl (T 0, 132, .inl (fun _ => 0))), (q3, .inl (T 0, 1584, .inl (fun _ => 0))), (q4, .inl (T 0, 144, .inl (fun _ => 0))), (q5, .inl (T 0, 12, .inl (fun _ => 0))), (q6, .inl (T 0, 12, .inl (fun _ => 0))), (q7, .inl (T 0, 12, .inl (fun _ => 0))), (q8, .inl (T 0, 12, .inl (fun _ => 0)))] H := hP
  have hD : va_D A [(h0, .inr (10, [.ref p1, .int 0, .ref q1, .ref q2, .ref q3, .ref q4, .ref q5, .ref q6, .ref q7, .ref q8])), (q1, .inl (T 0, 132, .inl (fun _ => 0))), (q2, .inl (T 0, 132, .inl (fun _ => 0))), (q3, .inl (T 0, 1584, .inl (fun _ => 0))), (q4, .inl (T 0, 144, .inl (fun _ => 0))), (q5, .inl (T 0, 12, .inl (fun _ => 0))), (q6, .inl (T 0, 12, .inl (fun _ => 0))), (q7, .inl (T 0, 12, .inl (fun _ => 0))), (q8, .inl (T 0, 12, .inl (fun _ => 0)))] := hD
  exact W.vret hx hb hr (fun t ht hW => ⟨⟨(fun k => [q1, q2, q3, q4, q5, q6, q7, q8].getD k 0), rfl, trivial, by rw [ht]; exact hP, va_K.moved hW.alike hK, hD⟩, hS.F ht⟩) hS.2.2 dX10_init_77
