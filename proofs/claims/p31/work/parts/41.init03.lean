-- PeckYard$Muster.<init>(LPeckYard$Flock;)V
theorem kX8_init_m3 : Cond.methodLink RX8 3 objectInit ∈ wsX8_init := by decide +kernel
theorem kX8_init_imO : Cond.instanceMethod objectInit ∈ wsX8_init := by decide +kernel
theorem kX8_init_cdO : Cond.code objectInit ⟨#[0xb1]⟩ 1 none ∈ wsX8_init := by decide +kernel
theorem kX8_init_f9 : Cond.fieldLink RX8 9 "PeckYard$Muster" "stamp" "I" ∈ wsX8_init := by decide +kernel
theorem kX8_init_iX8 : ∀ w ∈ u_ws RX8 TX8 10, w ∈ wsX8_init := by decide +kernel
theorem kX8_init_ar_int : Cond.arrayClass .int ∈ wsX8_init := by decide +kernel
theorem kX8_init_f15 : Cond.fieldLink RX8 15 "PeckYard$Muster" "hens" "[I" ∈ wsX8_init := by decide +kernel
theorem kX8_init_f19 : Cond.fieldLink RX8 19 "PeckYard$Muster" "slotOf" "[I" ∈ wsX8_init := by decide +kernel
theorem kX8_init_f22 : Cond.fieldLink RX8 22 "PeckYard$Muster" "kind" "[I" ∈ wsX8_init := by decide +kernel
theorem kX8_init_f25 : Cond.fieldLink RX8 25 "PeckYard$Muster" "wants" "[I" ∈ wsX8_init := by decide +kernel
theorem kX8_init_f28 : Cond.fieldLink RX8 28 "PeckYard$Muster" "below" "[I" ∈ wsX8_init := by decide +kernel
theorem kX8_init_f31 : Cond.fieldLink RX8 31 "PeckYard$Muster" "pairs" "[I" ∈ wsX8_init := by decide +kernel
theorem kX8_init_f34 : Cond.fieldLink RX8 34 "PeckYard$Muster" "pecks" "[I" ∈ wsX8_init := by decide +kernel
theorem kX8_init_f37 : Cond.fieldLink RX8 37 "PeckYard$Muster" "flock" "LPeckYard$Flock;" ∈ wsX8_init := by decide +kernel
def rmX8_init : Room := { frames := 1, cells := 7, slots := 216, locals := 20 }
set_option maxHeartbeats 1000000 in
set_option maxRecDepth 100000 in
theorem mX8_init (l : Launch) (D : va_G) (T : Nat → ClassId) (h0 p1 : Nat) (sz : Nat) : Met l yX8_init wsX8_init rmX8_init (va_Pc [.ref h0, .ref p1] (fun U => U.heap.size = sz ∧ va_P D vwCl [(h0, .inr (8, [.null, .int 0, .int 0, .null, .null, .null, .null, .null, .null, .null]))] U.heap ∧ va_K D vwCl (tysC T) U ∧ va_D (fun _ => True) [(h0, .inr (8, [.null, .int 0, .int 0, .null, .null, .null, .null, .null, .null, .null]))] ∧ (∀ w ∈ nwL, va_Nw w U) ∧ va_AO "PeckYard$Change" U)) (va_Qv (fun _ : Nat → Nat => True) (fun (u : Nat → Nat) t => va_P D vwCl [(h0, .inr (8, [.ref p1, .int (-1 : Int32), .int 0, .ref (u 0), .ref (u 1), .ref (u 2), .ref (u 3), .ref (u 4), .ref (u 5), .ref (u 6)])), ((u 0), .inl (T 0, 12, .inl (fun _ => 0))), ((u 1), .inl (T 0, 12, .inl (fun _ => 0))), ((u 2), .inl (T 0, 12, .inl (fun _ => 0))), ((u 3), .inl (T 0, 12, .inl (fun _ => 0))), ((u 4), .inl (T 0, 12, .inl (fun _ => 0))), ((u 5), .inl (T 0, 12, .inl (fun _ => 0))), ((u 6), .inl (T 0, 144, .inl (fun _ => 0)))] t.heap ∧ va_K D vwCl (tysC T) t ∧ va_D (va_A [(h0, .inr (8, [.null, .int 0, .int 0, .null, .null, .null, .null, .null, .null, .null]))] sz) [(h0, .inr (8, [.ref p1, .int (-1 : Int32), .int 0, .ref (u 0), .ref (u 1), .ref (u 2), .ref (u 3), .ref (u 4), .ref (u 5), .ref (u 6)])), ((u 0), .inl (T 0, 12, .inl (fun _ => 0))), ((u 1), .inl (T 0, 12, .inl (fun _ => 0))), ((u 2), .inl (T 0, 12, .inl (fun _ => 0))), ((u 3), .inl (T 0, 12, .inl (fun _ => 0))), ((u 4), .inl (T 0, 12, .inl (fun _ => 0))), ((u 5), .inl (T 0, 12, .inl (fun _ => 0))), ((u 6), .inl (T 0, 144, .inl (fun _ => 0)))]) (va_A [(h0, .inr (8, [.null, .int 0, .int 0, .null, .null, .null, .null, .null, .null, .null]))] sz)) 7 216 (va_A [(h0, .inr (8, [.null, .int 0, .int 0, .null, .null, .null, .null, .null, .null, .null]))] sz) := by
  refine Met.ofW (cc := cX8_init) (maxL := 2) (ret := none) (by decide) rfl ?_
  intro p e s m args below meth c s₁ B hml hv
  obtain ⟨rfl, hsz, hP, hK, hD0, hnw, hao⟩ := hv
  have hx := B.exec
  have hb := B.bytes
  have hr := B.returns
  have hts := atoms_spec (ws := wsX8_init) B.pre
  have hown : s.vm.findClass RX8 = some m.cls := findClass_of_methodNamed B.named
  have hlocks := B.notSynchronized
  have hin : meth.name = "<init>" := (name_of_methodNamed B.named B.method).1
  subst hsz
  have hD := hD0.self (sz := s.heap.size)
  generalize hAe : va_A [(h0, .inr (8, [.null, .int 0, .int 0, .null, .null, .null, .null, .null, .null, .null]))] s.heap.size = A at hD ⊢
  have hA : ∀ q : Nat, s.heap.size ≤ q → A q := fun q h => by rw [← hAe]; exact Or.inr h
  have hS : va_S A s.heap s.heap [] := va_S.rf
  have hP : va_P D vwCl [(h0, .inr (8, [.null, .int 0, .int 0, .null, .null, .null, .null, .null, .null, .null]))] s.heap := hP
  have hl := lv_entry [.ref h0, .ref p1] (n := 2) (Nat.le_of_ble_eq_true rfl)
  rw [lg_entry_eq]
  generalize (lg_sl [.ref h0, .ref p1] ++ List.replicate (2 - (lg_sl [.ref h0, .ref p1]).length) Slot.unset).toArray = ls at hl ⊢
  have hl : lv_has ls 2 [(0, .ref h0), (1, .ref p1)] := hl
  refine lv_aload_n hx hb dX8_init_0 rfl (lv_at hl 0 rfl) ?_
  refine W.objInit hx hb hown (hts _ kX8_init_m3) (hts _ kX8_init_imO) (hts _ kX8_init_cdO) rfl (by rw [hml]; exact hl.1) rfl dX8_init_1 (Nat.le_of_ble_eq_true rfl) (Nat.le_of_ble_eq_true rfl) ?_
  refine W.eq (g2 := F0 m 4 ls []) rfl ?_
  refine lv_aload_n hx hb dX8_init_4 rfl (lv_at hl 0 rfl) ?_
  refine lv_iconst (v := (-1 : Int32)) hx hb dX8_init_5 (by decide) ?_
  refine va_put (D := D) (ci := 8) (v := .int (-1 : Int32)) (ty := .int) (C := RX8) (T := TX8) (N := 10) hx hb hts kX8_init_iX8 tyX8 tyX8_ok nmX8 hown hK hP hD hS 0 rfl rfl 1 (by decide) (hts _ kX8_init_f9) (fun _ h9 => h9) rfl (by decide +kernel) rfl rfl (Nat.le_of_ble_eq_true rfl) dX8_init_6 (fun H locs hP hD hS => ?_)
  have hP : va_P D vwCl [(h0, .inr (8, [.null, .int (-1 : Int32), .int 0, .null, .null, .null, .null, .null, .null, .null]))] H := hP
  have hD : va_D A [(h0, .inr (8, [.null, .int (-1 : Int32), .int 0, .null, .null, .null, .null, .null, .null, .null]))] := hD
  refine lv_aload_n hx hb dX8_init_9 rfl (lv_at hl 0 rfl) ?_
  refine lv_bipush (v := (12 : Int32)) hx hb dX8_init_10 (by decide) ?_
  refine r_newa (tys := tysC T) (atype := .int) (a0 := (12, .inl (fun _ => 0))) hx hb (hts _ kX8_init_ar_int) rfl (fun _ h9 => by cases h9) 0 rfl hK hP hD hS hA (fun _ => rfl) (by decide) (N' := 12) rfl (by decide) (Nat.le_of_ble_eq_true rfl) (Nat.le_of_ble_eq_true rfl) dX8_init_12 (fun q1 H hP hD hS => ?_)
  have hP : va_P D vwCl [(h0, .inr (8, [.null, .int (-1 : Int32), .int 0, .null, .null, .null, .null, .null, .null, .null])), (q1, .inl (T 0, 12, .inl (fun _ => 0)))] H := hP
  have hD : va_D A [(h0, .inr (8, [.null, .int (-1 : Int32), .int 0, .null, .null, .null, .null, .null, .null, .null])), (q1, .inl (T 0, 12, .inl (fun _ => 0)))] := hD
  refine W.widen (k := 1) (n := 12) (by decide) (by decide) ?_
  refine va_putF (D := D) (ci := 8) (v := .ref q1) (ty := (.array .int)) (C := RX8) (T := TX8) (N := 10) hx hb hts kX8_init_iX8 tyX8 tyX8_ok nmX8 hown hK hP hD hS 0 rfl rfl 3 (by decide) (hts _ kX8_init_f15) (fun _ h9 => h9) rfl hin rfl (by decide +kernel) rfl rfl (Nat.le_of_ble_eq_true rfl) dX8_init_14 (fun H locs hP hD hS => ?_)
  have hP : va_P D vwCl [(h0, .inr (8, [.null, .int (-1 : Int32), .int 0, .ref q1, .null, .null, .null, .null, .null, .null])), (q1, .inl (T 0, 12, .inl (fun _ => 0)))] H := hP
  have hD : va_D A [(h0, .inr (8, [.null, .int (-1 : Int32), .int 0, .ref q1, .null, .null, .null, .null, .null, .null])), (q1, .inl (T 0, 12, .inl (fun _ => 0)))] := hD
  refine lv_aload_n hx hb dX8_init_17 rfl (lv_at hl 0 rfl) ?_
  refine lv_bipush (v := (12 : Int32)) hx hb dX8_init_18 (by decide) ?_
  refine r_newa (tys := tysC T) (atype := .int) (a0 := (12, .inl (fun _ => 0))) hx hb (hts _ kX8_init_ar_int) rfl (fun _ h9 => by cases h9) 0 rfl hK hP hD hS hA (fun _ => rfl) (by decide) (N' := 12) rfl (by decide) (Nat.le_of_ble_eq_true rfl) (Nat.le_of_ble_eq_true rfl) dX8_init_20 (fun q2 H hP hD hS => ?_)
  have hP : va_P D vwCl [(h0, .inr (8, [.null, .int (-1 : Int32), .int 0, .ref q1, .null, .null, .null, .null, .null, .null])), (q1, .inl (T 0, 12, .inl (fun _ => 0))), (q2, .inl (T 0, 12, .inl (fun _ => 0)))] H := hP
  have hD : va_D A [(h0, .inr (8, [.null, .int (-1 : Int32), .int 0, .ref q1, .null, .null, .null, .null, .null, .null])), (q1, .inl (T 0, 12, .inl (fun _ => 0))), (q2, .inl (T 0, 12, .inl (fun _ => 0)))] := hD
  refine W.widen (k := 2) (n := 24) (by decide) (by decide) ?_
  refine va_putF (D := D) (ci := 8) (v := .ref q2) (ty := (.array .int)) (C := RX8) (T := TX8) (N := 10) hx hb hts kX8_init_iX8 tyX8 tyX8_ok nmX8 hown hK hP hD hS 0 rfl rfl 4 (by decide) (hts _ kX8_init_f19) (fun _ h9 => h9) rfl hin rfl (by decide +kernel) rfl rfl (Nat.le_of_ble_eq_true rfl) dX8_init_22 (fun H locs hP hD hS => ?_)
  have hP : va_P D vwCl [(h0, .inr (8, [.null, .int (-1 : Int32), .int 0, .ref q1, .ref q2, .null, .null, .null, .null, .null])), (q1, .inl (T 0, 12, .inl (fun _ => 0))), (q2, .inl (T 0, 12, .inl (fun _ => 0)))] H := hP
  have hD : va_D A [(h0, .inr (8, [.null, .int (-1 : Int32), .int 0, .ref q1, .ref q2, .null, .null, .null, .null, .null])), (q1, .inl (T 0, 12, .inl (fun _ => 0))), (q2, .inl (T 0, 12, .inl (fun _ => 0)))] := hD
  refine lv_aload_n hx hb dX8_init_25 rfl (lv_at hl 0 rfl) ?_
  refine lv_bipush (v := (12 : Int32)) hx hb dX8_init_26 (by decide) ?_
  refine r_newa (tys := tysC T) (atype := .int) (a0 := (12, .inl (fun _ => 0))) hx hb (hts _ kX8_init_ar_int) rfl (fun _ h9 => by cases h9) 0 rfl hK hP hD hS hA (fun _ => rfl) (by decide) (N' := 12) rfl (by decide) (Nat.le_of_ble_eq_true rfl) (Nat.le_of_ble_eq_true rfl) dX8_init_28 (fun q3 H hP hD hS => ?_)
  have hP : va_P D vwCl [(h0, .inr (8, [.null, .int (-1 : Int32), .int 0, .ref q1, .ref q2, .null, .null, .null, .null, .null])), (q1, .inl (T 0, 12, .inl (fun _ => 0))), (q2, .inl (T 0, 12, .inl (fun _ => 0))), (q3, .inl (T 0, 12, .inl (fun _ => 0)))] H := hP
  have hD : va_D A [(h0, .inr (8, [.null, .int (-1 : Int32), .int 0, .ref q1, .ref q2, .null, .null, .null, .null, .null])), (q1, .inl (T 0, 12, .inl (fun _ => 0))), (q2, .inl (T 0, 12, .inl (fun _ => 0))), (q3, .inl (T 0, 12, .inl (fun _ => 0)))] := hD
  refine W.widen (k := 3) (n := 36) (by decide) (by decide) ?_
  refine va_putF (D := D) (ci := 8) (v := .ref q3) (ty := (.array .int)) (C := RX8) (T := TX8) (N := 10) hx hb hts kX8_init_iX8 tyX8 tyX8_ok nmX8 hown hK hP hD hS 0 rfl rfl 5 (by decide) (hts _ kX8_init_f22) (fun _ h9 => h9) rfl hin rfl (by decide +kernel) rfl rfl (Nat.le_of_ble_eq_true rfl) dX8_init_30 (fun H locs hP hD hS => ?_)
  have hP : va_P D vwCl [(h0, .inr (8, [.null, .int (-1 : Int32), .int 0, .ref q1, .ref q2, .ref q3, .null, .null, .null, .null])), (q1, .inl (T 0, 12, .inl (fun _ => 0))), (q2, .inl (T 0, 12, .inl (fun _ => 0))), (q3, .inl (T 0, 12, .inl (fun _ => 0)))] H := hP
  have hD : va_D A [(h0, .inr (8, [.null, .int (-1 : Int32), .int 0, .ref q1, .ref q2, .ref q3, .null, .null, .null, .null])), (q1, .inl (T 0, 12, .inl (fun _ => 0))), (q2, .inl (T 0, 12, .inl (fun _ => 0))), (q3, .inl (T 0, 12, .inl (fun _ => 0)))] := hD
  refine lv_aload_n hx hb dX8_init_33 rfl (lv_at hl 0 rfl) ?_
  refine lv_bipush (v := (12 : Int32)) hx hb dX8_init_34 (by decide) ?_
  refine r_newa (tys := tysC T) (atype := .int) (a0 := (12, .inl (fun _ => 0))) hx hb (hts _ kX8_init_ar_int) rfl (fun _ h9 => by cases h9) 0 rfl hK hP hD hS hA (fun _ => rfl) (by decide) (N' := 12) rfl (by decide) (Nat.le_of_ble_eq_true rfl) (Nat.le_of_ble_eq_true rfl) dX8_init_36 (fun q4 H hP hD hS => ?_)
  have hP : va_P D vwCl [(h0, .inr (8, [.null, .int (-1 : Int32), .int 0, .ref q1, .ref q2, .ref q3, .null, .null, .null, .null])), (q1, .inl (T 0, 12, .inl (fun _ => 0))), (q2, .inl (T 0, 12, .inl (fun _ => 0))), (q3, .inl (T 0, 12, .inl (fun _ => 0))), (q4, .inl (T 0, 12, .inl (fun _ => 0)))] H := hP
  have hD : va_D A [(h0, .inr (8, [.null, .int (-1 : Int32), .int 0, .ref q1, .ref q2, .ref q3, .null, .null, .null, .null])), (q1, .inl (T 0, 12, .inl (fun _ => 0))), (q2, .inl (T 0, 12, .inl (fun _ => 0))), (q3, .inl (T 0, 12, .inl (fun _ => 0))), (q4, .inl (T 0, 12, .inl (fun _ => 0)))] := hD
  refine W.widen (k := 4) (n := 48) (by decide) (by decide) ?_
  refine va_putF (D := D) (ci := 8) (v := .ref q4) (ty := (.array .int)) (C := RX8) (T := TX8) (N := 10) hx hb hts kX8_init_iX8 tyX8 tyX8_ok nmX8 hown hK hP hD hS 0 rfl rfl 6 (by decide) (hts _ kX8_init_f25) (fun _ h9 => h9) rfl hin rfl (by decide +kernel) rfl rfl (Nat.le_of_ble_eq_true rfl) dX8_init_38 (fun H locs hP hD hS => ?_)
  have hP : va_P D vwCl [(h0, .inr (8, [.null, .int (-1 : Int32), .int 0, .ref q1, .ref q2, .ref q3, .ref q4, .null, .null, .null])), (q1, .inl (T 0, 12, .inl (fun _ => 0))), (q2, .inl (T 0, 12, .inl (fun _ => 0))), (q3, .inl (T 0, 12, .inl (fun _ => 0))), (q4, .inl (T 0, 12, .inl (fun _ => 0)))] H := hP
  have hD : va_D A [(h0, .inr (8, [.null, .int (-1 : Int32), .int 0, .ref q1, .ref q2, .ref q3, .ref q4, .null, .null, .null])), (q1, .inl (T 0, 12, .inl (fun _ => 0))), (q2, .inl (T 0, 12, .inl (fun _ => 0))), (q3, .inl (T 0, 12, .inl (fun _ => 0))), (q4, .inl (T 0, 12, .inl (fun _ => 0)))] := hD
  refine lv_aload_n hx hb dX8_init_41 rfl (lv_at hl 0 rfl) ?_
  refine lv_bipush (v := (12 : Int32)) hx hb dX8_init_42 (by decide) ?_
  refine r_newa (tys := tysC T) (atype := .int) (a0 := (12, .inl (fun _ => 0))) hx hb (hts _ kX8_init_ar_int) rfl (fun _ h9 => by cases h9) 0 rfl hK hP hD hS hA (fun _ => rfl) (by decide) (N' := 12) rfl (by decide) (Nat.le_of_ble_eq_true rfl) (Nat.le_of_ble_eq_true rfl) dX8_init_44 (fun q5 H hP hD hS => ?_)
  have hP : va_P D vwCl [(h0, .inr (8, [.null, .int (-1 : Int32), .int 0, .ref q1, .ref q2, .ref q3, .ref q4, .null, .null, .null])), (q1, .inl (T 0, 12, .inl (fun _ => 0))), (q2, .inl (T 0, 12, .inl (fun _ => 0))), (q3, .inl (T 0, 12, .inl (fun _ => 0))), (q4, .inl (T 0, 12, .inl (fun _ => 0))), (q5, .inl (T 0, 12, .inl (fun _ => 0)))] H := hP
  have hD : va_D A [(h0, .inr (8, [.null, .int (-1 : Int32), .int 0, .ref q1, .ref q2, .ref q3, .ref q4, .null, .null, .null])), (q1, .inl (T 0, 12, .inl (fun _ => 0))), (q2, .inl (T 0, 12, .inl (fun _ => 0))), (q3, .inl (T 0, 12, .inl (fun _ => 0))), (q4, .inl (T 0, 12, .inl (fun _ => 0))), (q5, .inl (T 0, 12, .inl (fun _ => 0)))] := hD
  refine W.widen (k := 5) (n := 60) (by decide) (by decide) ?_
  refine va_putF (D := D) (ci := 8) (v := .ref q5) (ty := (.array .int)) (C := RX8) (T := TX8) (N := 10) hx hb hts kX8_init_iX8 tyX8 tyX8_ok nmX8 hown hK hP hD hS 0 rfl rfl 7 (by decide) (hts _ kX8_init_f28) (fun _ h9 => h9) rfl hin rfl (by decide +kernel) rfl rfl (Nat.le_of_ble_eq_true rfl) dX8_init_46 (fun H locs hP hD hS => ?_)
  have hP : va_P D vwCl [(h0, .inr (8, [.null, .int (-1 : Int32), .int 0, .ref q1, .ref q2, .ref q3, .ref q4, .ref q5, .null, .null])), (q1, .inl (T 0, 12, .inl (fun _ => 0))), (q2, .inl (T 0, 12, .inl (fun _ => 0))), (q3, .inl (T 0, 12, .inl (fun _ => 0))), (q4, .inl (T 0, 12, .inl (fun _ => 0))), (q5, .inl (T 0, 12, .inl (fun _ => 0)))] H := hP
  have hD : va_D A [(h0, .inr (8, [.null, .int (-1 : Int32), .int 0, .ref q1, .ref q2, .ref q3, .ref q4, .ref q5, .null, .null])), (q1, .inl (T 0, 12, .inl (fun _ => 0))), (q2, .inl (T 0, 12, .inl (fun _ => 0))), (q3, .inl (T 0, 12, .inl (fun _ => 0))), (q4, .inl (T 0, 12, .inl (fun _ => 0))), (q5, .inl (T 0, 12, .inl (fun _ => 0)))] := hD
  refine lv_aload_n hx hb dX8_init_49 rfl (lv_at hl 0 rfl) ?_
  refine lv_bipush (v := (12 : Int32)) hx hb dX8_init_50 (by decide) ?_
  refine r_newa (tys := tysC T) (atype := .int) (a0 := (12, .inl (fun _ => 0))) hx hb (hts _ kX8_init_ar_int) rfl (fun _ h9 => by cases h9) 0 rfl hK hP hD hS hA (fun _ => rfl) (by decide) (N' := 12) rfl (by decide) (Nat.le_of_ble_eq_true rfl) (Nat.le_of_ble_eq_true rfl) dX8_init_52 (fun q6 H hP hD hS => ?_)
  have hP : va_P D vwCl [(h0, .inr (8, [.null, .int (-1 : Int32), .int 0, .ref q1, .ref q2, .ref q3, .ref q4, .ref q5, .null, .null])), (q1, .inl (T 0, 12, .inl (fun _ => 0))), (q2, .inl (T 0, 12, .inl (fun _ => 0))), (q3, .inl (T 0, 12, .inl (fun _ => 0))), (q4, .inl (T 0, 12, .inl (fun _ => 0))), (q5, .inl (T 0, 12, .inl (fun _ => 0))), (q6, .inl (T 0, 12, .inl (fun _ => 0)))] H := hP
  have hD : va_D A [(h0, .inr (8, [.null, .int (-1 : Int32), .int 0, .ref q1, .ref q2, .ref q3, .ref q4, .ref q5, .null, .null])), (q1, .inl (T 0, 12, .inl (fun _ => 0))), (q2, .inl (T 0, 12, .inl (fun _ => 0))), (q3, .inl (T 0, 12, .inl (fun _ => 0))), (q4, .inl (T 0, 12, .inl (fun _ => 0))), (q5, .inl (T 0, 12, .inl (fun _ => 0))), (q6, .inl (T 0, 12, .inl (fun _ => 0)))] := hD
  refine W.widen (k := 6) (n := 72) (by decide) (by decide) ?_
  refine va_putF (D := D) (ci := 8) (v := .ref q6) (ty := (.array .int)) (C := RX8) (T := TX8) (N := 10) hx hb hts kX8_init_iX8 tyX8 tyX8_ok nmX8 hown hK hP hD hS 0 rfl rfl 8 (by decide) (hts _ kX8_init_f31) (fun _ h9 => h9) rfl hin rfl (by decide +kernel) rfl rfl (Nat.le_of_ble_eq_true rfl) dX8_init_54 (fun H locs hP hD hS => ?_)
  have hP : va_P D vwCl [(h0, .inr (8, [.null, .int (-1 : Int32), .int 0, .ref q1, .ref q2, .ref q3, .ref q4, .ref q5, .ref q6, .null])), (q1, .inl (T 0, 12, .inl (fun _ => 0))), (q2, .inl (T 0, 12, .inl (fun _ => 0))), (q3, .inl (T 0, 12, .inl (fun _ => 0))), (q4, .inl (T 0, 12, .inl (fun _ => 0))), (q5, .inl (T 0, 12, .inl (fun _ => 0))), (q6, .inl (T 0, 12, .inl (fun _ => 0)))] H := hP
  have hD : va_D A [(h0, .inr (8, [.null, .int (-1 : Int32), .int 0, .ref q1, .ref q2, .ref q3, .ref q4, .ref q5, .ref q6, .null])), (q1, .inl (T 0, 12, .inl (fun _ => 0))), (q2, .inl (T 0, 12, .inl (fun _ => 0))), (q3, .inl (T 0, 12, .inl (fun _ => 0))), (q4, .inl (T 0, 12, .inl (fun _ => 0))), (q5, .inl (T 0, 12, .inl (fun _ => 0))), (q6, .inl (T 0, 12, .inl (fun _ => 0)))] := hD
  refine lv_aload_n hx hb dX8_init_57 rfl (lv_at hl 0 rfl) ?_
  refine lv_sipush (v := (144 : Int32)) hx hb dX8_init_58 (by decide) ?_
  refine r_newa (tys := tysC T) (atype := .int) (a0 := (144, .inl (fun _ => 0))) hx hb (hts _ kX8_init_ar_int) rfl (fun _ h9 => by cases h9) 0 rfl hK hP hD hS hA (fun _ => rfl) (by decide) (N' := 144) rfl (by decide) (Nat.le_of_ble_eq_true rfl) (Nat.le_of_ble_eq_true rfl) dX8_init_61 (fun q7 H hP hD hS => ?_)
  have hP : va_P D vwCl [(h0, .inr (8, [.null, .int (-1 : Int32), .int 0, .ref q1, .ref q2, .ref q3, .ref q4, .ref q5, .ref q6, .null])), (q1, .inl (T 0, 12, .inl (fun _ => 0))), (q2, .inl (T 0, 12, .inl (fun _ => 0))), (q3, .inl (T 0, 12, .inl (fun _ => 0))), (q4, .inl (T 0, 12, .inl (fun _ => 0))), (q5, .inl (T 0, 12, .inl (fun _ => 0))), (q6, .inl (T 0, 12, .inl (fun _ => 0))), (q7, .inl (T 0, 144, .inl (fun _ => 0)))] H := hP
  have hD : va_D A [(h0, .inr (8, [.null, .int (-1 : Int32), .int 0, .ref q1, .ref q2, .ref q3, .ref q4, .ref q5, .ref q6, .null])), (q1, .inl (T 0, 12, .inl (fun _ => 0))), (q2, .inl (T 0, 12, .inl (fun _ => 0))), (q3, .inl (T 0, 12, .inl (fun _ => 0))), (q4, .inl (T 0, 12, .inl (fun _ => 0))), (q5, .inl (T 0, 12, .inl (fun _ => 0))), (q6, .inl (T 0, 12, .inl (fun _ => 0))), (q7, .inl (T 0, 144, .inl (fun _ => 0)))] := hD
  refine W.widen (k := 7) (n := 216) (by decide) (by decide) ?_
  refine va_putF (D := D) (ci := 8) (v := .ref q7) (ty := (.array .int)) (C := RX8) (T := TX8) (N := 10) hx hb hts kX8_init_iX8 tyX8 tyX8_ok nmX8 hown hK hP hD hS 0 rfl rfl 9 (by decide) (hts _ kX8_init_f34) (fun _ h9 => h9) rfl hin rfl (by decide +kernel) rfl rfl (Nat.le_of_ble_eq_true rfl) dX8_init_63 (fun H locs hP hD hS => ?_)
  have hP : va_P D vwCl [(h0, .inr (8, [.null, .int (-1 : Int32), .int 0, .ref q1, .ref q2, .ref q3, .ref q4, .ref q5, .ref q6, .ref q7])), (q1, .inl (T 0, 12, .inl (fun _ => 0))), (q2, .inl (T 0, 12, .inl (fun _ => 0))), (q3, .inl (T 0, 12, .inl (fun _ => 0))), (q4, .inl (T 0, 12, .inl (fun _ => 0))), (q5, .inl (T 0, 12, .inl (fun _ => 0))), (q6, .inl (T 0, 12, .inl (fun _ => 0))), (q7, .inl (T 0, 144, .inl (fun _ => 0)))] H := hP
  have hD : va_D A [(h0, .inr (8, [.null, .int (-1 : Int32), .int 0, .ref q1, .ref q2, .ref q3, .ref q4, .ref q5, .ref q6, .ref q7])), (q1, .inl (T 0, 12, .inl (fun _ => 0))), (q2, .inl (T 0, 12, .inl (fun _ => 0))), (q3, .inl (T 0, 12, .inl (fun _ => 0))), (q4, .inl (T 0, 12, .inl (fun _ => 0))), (q5, .inl (T 0, 12, .inl (fun _ => 0))), (q6, .inl (T 0, 12, .inl (fun _ => 0))), (q7, .inl (T 0, 144, .inl (fun _ => 0)))] := hD
  refine lv_aload_n hx hb dX8_init_66 rfl (lv_at hl 0 rfl) ?_
  refine lv_aload_n hx hb dX8_init_67 rfl (lv_at hl 1 rfl) ?_
  refine va_putF (D := D) (ci := 8) (v := .ref p1) (ty := (.object "PeckYard$Flock")) (C := RX8) (T := TX8) (N := 10) hx hb hts kX8_init_iX8 tyX8 tyX8_ok nmX8 hown hK hP hD hS 0 rfl rfl 0 (by decide) (hts _ kX8_init_f37) (fun _ h9 => h9) rfl hin rfl (by decide +kernel) rfl rfl (Nat.le_of_ble_eq_true rfl) dX8_init_68 (fun H locs hP hD hS => ?_)
  have hP : va_P D vwCl [(h0, .inr (8, [.ref p1, .int (-1 : Int32), .int 0, .ref q1, .ref q2, .ref q3, .ref q4, .ref q5, .ref q6, .ref q7])), (q1, .inl (T 0, 12, .inl (fun _ => 0))), (q2, .inl (T 0, 12, .inl (fun _ => 0))), (q3, .inl (T 0, 12, .inl (fun _ => 0))), (q4, .inl (T 0, 12, .inl (fun _ => 0))), (q5, .inl (T 0, 12, .inl (fun _ => 0))), (q6, .inl (T 0, 12, .inl (fun _ => 0))), (q7, .inl (T 0, 144, .inl (fun _ => 0)))] H := hP
  have hD : va_D A [(h0, .inr (8, [.ref p1, .int (-1 : Int32), .int 0, .ref q1, .ref q2, .ref q3, .ref q4, .ref q5, .ref q6, .ref q7])), (q1, .inl (T 0, 12, .inl (fun _ => 0))), (q2, .inl (T 0, 12, .inl (fun _ => 0))), (q3, .inl (T 0, 12, .inl (fun _ => 0))), (q4, .inl (T 0, 12, .inl (fun _ => 0))), (q5, .inl (T 0, 12, .inl (fun _ => 0))), (q6, .inl (T 0, 12, .inl (fun _ => 0))), (q7, .inl (T 0, 144, .inl (fun _ => 0)))] := hD
  exact W.vret hx hb hr (fun t ht hW => ⟨⟨(fun k => [q1, q2, q3, q4, q5, q6, q7].getD k 0), rfl, trivial, by rw [ht]; exact hP, va_K.moved hW.alike hK, hD⟩, hS.F ht⟩) hS.2.2 dX8_init_71
