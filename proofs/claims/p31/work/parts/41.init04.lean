-- PeckYard$Halves.<init>(LPeckYard$Muster;)V
theorem kX4_init_m3 : Cond.methodLink RX4 3 objectInit ∈ wsX4_init := by decide +kernel
theorem kX4_init_imO : Cond.instanceMethod objectInit ∈ wsX4_init := by decide +kernel
theorem kX4_init_cdO : Cond.code objectInit ⟨#[0xb1]⟩ 1 none ∈ wsX4_init := by decide +kernel
theorem kX4_init_f9 : Cond.fieldLink RX4 9 "PeckYard$Halves" "stamp" "I" ∈ wsX4_init := by decide +kernel
theorem kX4_init_iX4 : ∀ w ∈ u_ws RX4 TX4 8, w ∈ wsX4_init := by decide +kernel
theorem kX4_init_ar_int : Cond.arrayClass .int ∈ wsX4_init := by decide +kernel
theorem kX4_init_f15 : Cond.fieldLink RX4 15 "PeckYard$Halves" "lowCost" "[I" ∈ wsX4_init := by decide +kernel
theorem kX4_init_f19 : Cond.fieldLink RX4 19 "PeckYard$Halves" "highCost" "[I" ∈ wsX4_init := by decide +kernel
theorem kX4_init_f22 : Cond.fieldLink RX4 22 "PeckYard$Halves" "lowBelow" "[I" ∈ wsX4_init := by decide +kernel
theorem kX4_init_f25 : Cond.fieldLink RX4 25 "PeckYard$Halves" "highBelow" "[I" ∈ wsX4_init := by decide +kernel
theorem kX4_init_f28 : Cond.fieldLink RX4 28 "PeckYard$Halves" "lowPairs" "[I" ∈ wsX4_init := by decide +kernel
theorem kX4_init_f31 : Cond.fieldLink RX4 31 "PeckYard$Halves" "highPairs" "[I" ∈ wsX4_init := by decide +kernel
theorem kX4_init_f34 : Cond.fieldLink RX4 34 "PeckYard$Halves" "muster" "LPeckYard$Muster;" ∈ wsX4_init := by decide +kernel
def rmX4_init : Room := { frames := 1, cells := 6, slots := 1792, locals := 20 }
set_option maxHeartbeats 1000000 in
set_option maxRecDepth 100000 in
theorem mX4_init (l : Launch) (D : va_G) (T : Nat → ClassId) (h0 p1 : Nat) (sz : Nat) : Met l yX4_init wsX4_init rmX4_init (va_Pc [.ref h0, .ref p1] (fun U => U.heap.size = sz ∧ va_P D vwCl [(h0, .inr (4, [.null, .int 0, .null, .null, .null, .null, .null, .null]))] U.heap ∧ va_K D vwCl (tysC T) U ∧ va_D (fun _ => True) [(h0, .inr (4, [.null, .int 0, .null, .null, .null, .null, .null, .null]))] ∧ (∀ w ∈ nwL, va_Nw w U) ∧ va_AO "PeckYard$Change" U)) (va_Qv (fun _ : Nat → Nat => True) (fun (u : Nat → Nat) t => va_P D vwCl [(h0, .inr (4, [.ref p1, .int (-1 : Int32), .ref (u 0), .ref (u 1), .ref (u 2), .ref (u 3), .ref (u 4), .ref (u 5)])), ((u 0), .inl (T 0, 768, .inl (fun _ => 0))), ((u 1), .inl (T 0, 768, .inl (fun _ => 0))), ((u 2), .inl (T 0, 64, .inl (fun _ => 0))), ((u 3), .inl (T 0, 64, .inl (fun _ => 0))), ((u 4), .inl (T 0, 64, .inl (fun _ => 0))), ((u 5), .inl (T 0, 64, .inl (fun _ => 0)))] t.heap ∧ va_K D vwCl (tysC T) t ∧ va_D (va_A [(h0, .inr (4, [.null, .int 0, .null, .null, .null, .null, .null, .null]))] sz) [(h0, .inr (4, [.ref p1, .int (-1 : Int32), .ref (u 0), .ref (u 1), .ref (u 2), .ref (u 3), .ref (u 4), .ref (u 5)])), ((u 0), .inl (T 0, 768, .inl (fun _ => 0))), ((u 1), .inl (T 0, 768, .inl (fun _ => 0))), ((u 2), .inl (T 0, 64, .inl (fun _ => 0))), ((u 3), .inl (T 0, 64, .inl (fun _ => 0))), ((u 4), .inl (T 0, 64, .inl (fun _ => 0))), ((u 5), .inl (T 0, 64, .inl (fun _ => 0)))]) (va_A [(h0, .inr (4, [.null, .int 0, .null, .null, .null, .null, .null, .null]))] sz)) 6 1792 (va_A [(h0, .inr (4, [.null, .int 0, .null, .null, .null, .null, .null, .null]))] sz) := by
  refine Met.ofW (cc := cX4_init) (maxL := 2) (ret := none) (by decide) rfl ?_
  intro p e s m args below meth c s₁ B hml hv
  obtain ⟨rfl, hsz, hP, hK, hD0, hnw, hao⟩ := hv
  have hx := B.exec
  have hb := B.bytes
  have hr := B.returns
  have hts := atoms_spec (ws := wsX4_init) B.pre
  have hown : s.vm.findClass RX4 = some m.cls := findClass_of_methodNamed B.named
  have hlocks := B.notSynchronized
  have hin : meth.name = "<init>" := (name_of_methodNamed B.named B.method).1
  subst hsz
  have hD := hD0.self (sz := s.heap.size)
  generalize hAe : va_A [(h0, .inr (4, [.null, .int 0, .null, .null, .null, .null, .null, .null]))] s.heap.size = A at hD ⊢
  have hA : ∀ q : Nat, s.heap.size ≤ q → A q := fun q h => by rw [← hAe]; exact Or.inr h
  have hS : va_S A s.heap s.heap [] := va_S.rf
  have hP : va_P D vwCl [(h0, .inr (4, [.null, .int 0, .null, .null, .null, .null, .null, .null]))] s.heap := hP
  have hl := lv_entry [.ref h0, .ref p1] (n := 2) (Nat.le_of_ble_eq_true rfl)
  rw [lg_entry_eq]
  generalize (lg_sl [.ref h0, .ref p1] ++ List.replicate (2 - (lg_sl [.ref h0, .ref p1]).length) Slot.unset).toArray = ls at hl ⊢
  have hl : lv_has ls 2 [(0, .ref h0), (1, .ref p1)] := hl
  refine lv_aload_n hx hb dX4_init_0 rfl (lv_at hl 0 rfl) ?_
  refine W.objInit hx hb hown (hts _ kX4_init_m3) (hts _ kX4_init_imO) (hts _ kX4_init_cdO) rfl (by rw [hml]; exact hl.1) rfl dX4_init_1 (Nat.le_of_ble_eq_true rfl) (Nat.le_of_ble_eq_true rfl) ?_
  refine W.eq (g2 := F0 m 4 ls []) rfl ?_
  refine lv_aload_n hx hb dX4_init_4 rfl (lv_at hl 0 rfl) ?_
  refine lv_iconst (v := (-1 : Int32)) hx hb dX4_init_5 (by decide) ?_
  refine va_put (D := D) (ci := 4) (v := .int (-1 : Int32)) (ty := .int) (C := RX4) (T := TX4) (N := 8) hx hb hts kX4_init_iX4 tyX4 tyX4_ok nmX4 hown hK hP hD hS 0 rfl rfl 1 (by decide) (hts _ kX4_init_f9) (fun _ h9 => h9) rfl (by decide +kernel) rfl rfl (Nat.le_of_ble_eq_true rfl) dX4_init_6 (fun H locs hP hD hS => ?_)
  have hP : va_P D vwCl [(h0, .inr (4, [.null, .int (-1 : Int32), .null, .null, .null, .null, .null, .null]))] H := hP
  have hD : va_D A [(h0, .inr (4, [.null, .int (-1 : Int32), .null, .null, .null, .null, .null, .null]))] := hD
  refine lv_aload_n hx hb dX4_init_9 rfl (lv_at hl 0 rfl) ?_
  refine lv_sipush (v := (768 : Int32)) hx hb dX4_init_10 (by decide) ?_
  refine r_newa (tys := tysC T) (atype := .int) (a0 := (768, .inl (fun _ => 0))) hx hb (hts _ kX4_init_ar_int) rfl (fun _ h9 => by cases h9) 0 rfl hK hP hD hS hA (fun _ => rfl) (by decide) (N' := 768) rfl (by decide) (Nat.le_of_ble_eq_true rfl) (Nat.le_of_ble_eq_true rfl) dX4_init_13 (fun q1 H hP hD hS => ?_)
  have hP : va_P D vwCl [(h0, .inr (4, [.null, .int (-1 : Int32), .null, .null, .null, .null, .null, .null])), (q1, .inl (T 0, 768, .inl (fun _ => 0)))] H := hP
  have hD : va_D A [(h0, .inr (4, [.null, .int (-1 : Int32), .null, .null, .null, .null, .null, .null])), (q1, .inl (T 0, 768, .inl (fun _ => 0)))] := hD
  refine W.widen (k := 1) (n := 768) (by decide) (by decide) ?_
  refine va_putF (D := D) (ci := 4) (v := .ref q1) (ty := (.array .int)) (C := RX4) (T := TX4) (N := 8) hx hb hts kX4_init_iX4 tyX4 tyX4_ok nmX4 hown hK hP hD hS 0 rfl rfl 2 (by decide) (hts _ kX4_init_f15) (fun _ h9 => h9) rfl hin rfl (by decide +kernel) rfl rfl (Nat.le_of_ble_eq_true rfl) dX4_init_15 (fun H locs hP hD hS => ?_)
  have hP : va_P D vwCl [(h0, .inr (4, [.null, .int (-1 : Int32), .ref q1, .null, .null, .null, .null, .null])), (q1, .inl (T 0, 768, .inl (fun _ => 0)))] H := hP
  have hD : va_D A [(h0, .inr (4, [.null, .int (-1 : Int32), .ref q1, .null, .null, .null, .null, .null])), (q1, .inl (T 0, 768, .inl (fun _ => 0)))] := hD
  refine lv_aload_n hx hb dX4_init_18 rfl (lv_at hl 0 rfl) ?_
  refine lv_sipush (v := (768 : Int32)) hx hb dX4_init_19 (by decide) ?_
  refine r_newa (tys := tysC T) (atype := .int) (a0 := (768, .inl (fun _ => 0))) hx hb (hts _ kX4_init_ar_int) rfl (fun _ h9 => by cases h9) 0 rfl hK hP hD hS hA (fun _ => rfl) (by decide) (N' := 768) rfl (by decide) (Nat.le_of_ble_eq_true rfl) (Nat.le_of_ble_eq_true rfl) dX4_init_22 (fun q2 H hP hD hS => ?_)
  have hP : va_P D vwCl [(h0, .inr (4, [.null, .int (-1 : Int32), .ref q1, .null, .null, .null, .null, .null])), (q1, .inl (T 0, 768, .inl (fun _ => 0))), (q2, .inl (T 0, 768, .inl (fun _ => 0)))] H := hP
  have hD : va_D A [(h0, .inr (4, [.null, .int (-1 : Int32), .ref q1, .null, .null, .null, .null, .null])), (q1, .inl (T 0, 768, .inl (fun _ => 0))), (q2, .inl (T 0, 768, .inl (fun _ => 0)))] := hD
  refine W.widen (k := 2) (n := 1536) (by decide) (by decide) ?_
  refine va_putF (D := D) (ci := 4) (v := .ref q2) (ty := (.array .int)) (C := RX4) (T := TX4) (N := 8) hx hb hts kX4_init_iX4 tyX4 tyX4_ok nmX4 hown hK hP hD hS 0 rfl rfl 3 (by decide) (hts _ kX4_init_f19) (fun _ h9 => h9) rfl hin rfl (by decide +kernel) rfl rfl (Nat.le_of_ble_eq_true rfl) dX4_init_24 (fun H locs hP hD hS => ?_)
  have hP : va_P D vwCl [(h0, .inr (4, [.null, .int (-1 : Int32), .ref q1, .ref q2, .null, .null, .null, .null])), (q1, .inl (T 0, 768, .inl (fun _ => 0))), (q2, .inl (T 0, 768, .inl (fun _ => 0)))] H := hP
  have hD : va_D A [(h0, .inr (4, [.null, .int (-1 : Int32), .ref q1, .ref q2, .null, .null, .null, .null])), (q1, .inl (T 0, 768, .inl (fun _ => 0))), (q2, .inl (T 0, 768, .inl (fun _ => 0)))] := hD
  refine lv_aload_n hx hb dX4_init_27 rfl (lv_at hl 0 rfl) ?_
  refine lv_bipush (v := (64 : Int32)) hx hb dX4_init_28 (by decide) ?_
  refine r_newa (tys := tysC T) (atype := .int) (a0 := (64, .inl (fun _ => 0))) hx hb (hts _ kX4_init_ar_int) rfl (fun _ h9 => by cases h9) 0 rfl hK hP hD hS hA (fun _ => rfl) (by decide) (N' := 64) rfl (by decide) (Nat.le_of_ble_eq_true rfl) (Nat.le_of_ble_eq_true rfl) dX4_init_30 (fun q3 H hP hD hS => ?_)
  have hP : va_P D vwCl [(h0, .inr (4, [.null, .int (-1 : Int32), .ref q1, .ref q2, .null, .null, .null, .null])), (q1, .inl (T 0, 768, .inl (fun _ => 0))), (q2, .inl (T 0, 768, .inl (fun _ => 0))), (q3, .inl (T 0, 64, .inl (fun _ => 0)))] H := hP
  have hD : va_D A [(h0, .inr (4, [.null, .int (-1 : Int32), .ref q1, .ref q2, .null, .null, .null, .null])), (q1, .inl (T 0, 768, .inl (fun _ => 0))), (q2, .inl (T 0, 768, .inl (fun _ => 0))), (q3, .inl (T 0, 64, .inl (fun _ => 0)))] := hD
  refine W.widen (k := 3) (n := 1600) (by decide) (by decide) ?_
  refine va_putF (D := D) (ci := 4) (v := .ref q3) (ty := (.array .int)) (C := RX4) (T := TX4) (N := 8) hx hb hts kX4_init_iX4 tyX4 tyX4_ok nmX4 hown hK hP hD hS 0 rfl rfl 4 (by decide) (hts _ kX4_init_f22) (fun _ h9 => h9) rfl hin rfl (by decide +kernel) rfl rfl (Nat.le_of_ble_eq_true rfl) dX4_init_32 (fun H locs hP hD hS => ?_)
  have hP : va_P D vwCl [(h0, .inr (4, [.null, .int (-1 : Int32), .ref q1, .ref q2, .ref q3, .null, .null, .null])), (q1, .inl (T 0, 768, .inl (fun _ => 0))), (q2, .inl (T 0, 768, .inl (fun _ => 0))), (q3, .inl (T 0, 64, .inl (fun _ => 0)))] H := hP
  have hD : va_D A [(h0, .inr (4, [.null, .int (-1 : Int32), .ref q1, .ref q2, .ref q3, .null, .null, .null])), (q1, .inl (T 0, 768, .inl (fun _ => 0))), (q2, .inl (T 0, 768, .inl (fun _ => 0))), (q3, .inl (T 0, 64, .inl (fun _ => 0)))] := hD
  refine lv_aload_n hx hb dX4_init_35 rfl (lv_at hl 0 rfl) ?_
  refine lv_bipush (v := (64 : Int32)) hx hb dX4_init_36 (by decide) ?_
  refine r_newa (tys := tysC T) (atype := .int) (a0 := (64, .inl (fun _ => 0))) hx hb (hts _ kX4_init_ar_int) rfl (fun _ h9 => by cases h9) 0 rfl hK hP hD hS hA (fun _ => rfl) (by decide) (N' := 64) rfl (by decide) (Nat.le_of_ble_eq_true rfl) (Nat.le_of_ble_eq_true rfl) dX4_init_38 (fun q4 H hP hD hS => ?_)
  have hP : va_P D vwCl [(h0, .inr (4, [.null, .int (-1 : Int32), .ref q1, .ref q2, .ref q3, .null, .null, .null])), (q1, .inl (T 0, 768, .inl (fun _ => 0))), (q2, .inl (T 0, 768, .inl (fun _ => 0))), (q3, .inl (T 0, 64, .inl (fun _ => 0))), (q4, .inl (T 0, 64, .inl (fun _ => 0)))] H := hP
  have hD : va_D A [(h0, .inr (4, [.null, .int (-1 : Int32), .ref q1, .ref q2, .ref q3, .null, .null, .null])), (q1, .inl (T 0, 768, .inl (fun _ => 0))), (q2, .inl (T 0, 768, .inl (fun _ => 0))), (q3, .inl (T 0, 64, .inl (fun _ => 0))), (q4, .inl (T 0, 64, .inl (fun _ => 0)))] := hD
  refine W.widen (k := 4) (n := 1664) (by decide) (by decide) ?_
  refine va_putF (D := D) (ci := 4) (v := .ref q4) (ty := (.array .int)) (C := RX4) (T := TX4) (N := 8) hx hb hts kX4_init_iX4 tyX4 tyX4_ok nmX4 hown hK hP hD hS 0 rfl rfl 5 (by decide) (hts _ kX4_init_f25) (fun _ h9 => h9) rfl hin rfl (by decide +kernel) rfl rfl (Nat.le_of_ble_eq_true rfl) dX4_init_40 (fun H locs hP hD hS => ?_)
  have hP : va_P D vwCl [(h0, .inr (4, [.null, .int (-1 : Int32), .ref q1, .ref q2, .ref q3, .ref q4, .null, .null])), (q1, .inl (T 0, 768, .inl (fun _ => 0))), (q2, .inl (T 0, 768, .inl (fun _ => 0))), (q3, .inl (T 0, 64, .inl (fun _ => 0))), (q4, .inl (T 0, 64, .inl (fun _ => 0)))] H := hP
  have hD : va_D A [(h0, .inr (4, [.null, .int (-1 : Int32), .ref q1, .ref q2, .ref q3, .ref q4, .null, .null])), (q1, .inl (T 0, 768, .inl (fun _ => 0))), (q2, .inl (T 0, 768, .inl (fun _ => 0))), (q3, .inl (T 0, 64, .inl (fun _ => 0))), (q4, .inl (T 0, 64, .inl (fun _ => 0)))] := hD
  refine lv_aload_n hx hb dX4_init_43 rfl (lv_at hl 0 rfl) ?_
  refine lv_bipush (v := (64 : Int32)) hx hb dX4_init_44 (by decide) ?_
  refine r_newa (tys := tysC T) (atype := .int) (a0 := (64, .inl (fun _ => 0))) hx hb (hts _ kX4_init_ar_int) rfl (fun _ h9 => by cases h9) 0 rfl hK hP hD hS hA (fun _ => rfl) (by decide) (N' := 64) rfl (by decide) (Nat.le_of_ble_eq_true rfl) (Nat.le_of_ble_eq_true rfl) dX4_init_46 (fun q5 H hP hD hS => ?_)
  have hP : va_P D vwCl [(h0, .inr (4, [.null, .int (-1 : Int32), .ref q1, .ref q2, .ref q3, .ref q4, .null, .null])), (q1, .inl (T 0, 768, .inl (fun _ => 0))), (q2, .inl (T 0, 768, .inl (fun _ => 0))), (q3, .inl (T 0, 64, .inl (fun _ => 0))), (q4, .inl (T 0, 64, .inl (fun _ => 0))), (q5, .inl (T 0, 64, .inl (fun _ => 0)))] H := hP
  have hD : va_D A [(h0, .inr (4, [.null, .int (-1 : Int32), .ref q1, .ref q2, .ref q3, .ref q4, .null, .null])), (q1, .inl (T 0, 768, .inl (fun _ => 0))), (q2, .inl (T 0, 768, .inl (fun _ => 0))), (q3, .inl (T 0, 64, .inl (fun _ => 0))), (q4, .inl (T 0, 64, .inl (fun _ => 0))), (q5, .inl (T 0, 64, .inl (fun _ => 0)))] := hD
  refine W.widen (k := 5) (n := 1728) (by decide) (by decide) ?_
  refine va_putF (D := D) (ci := 4) (v := .ref q5) (ty := (.array .int)) (C := RX4) (T := TX4) (N := 8) hx hb hts kX4_init_iX4 tyX4 tyX4_ok nmX4 hown hK hP hD hS 0 rfl rfl 6 (by decide) (hts _ kX4_init_f28) (fun _ h9 => h9) rfl hin rfl (by decide +kernel) rfl rfl (Nat.le_of_ble_eq_true rfl) dX4_init_48 (fun H locs hP hD hS => ?_)
  have hP : va_P D vwCl [(h0, .inr (4, [.null, .int (-1 : Int32), .ref q1, .ref q2, .ref q3, .ref q4, .ref q5, .null])), (q1, .inl (T 0, 768, .inl (fun _ => 0))), (q2, .inl (T 0, 768, .inl (fun _ => 0))), (q3, .inl (T 0, 64, .inl (fun _ => 0))), (q4, .inl (T 0, 64, .inl (fun _ => 0))), (q5, .inl (T 0, 64, .inl (fun _ => 0)))] H := hP
  have hD : va_D A [(h0, .inr (4, [.null, .int (-1 : Int32), .ref q1, .ref q2, .ref q3, .ref q4, .ref q5, .null])), (q1, .inl (T 0, 768, .inl (fun _ => 0))), (q2, .inl (T 0, 768, .inl (fun _ => 0))), (q3, .inl (T 0, 64, .inl (fun _ => 0))), (q4, .inl (T 0, 64, .inl (fun _ => 0))), (q5, .inl (T 0, 64, .inl (fun _ => 0)))] := hD
  refine lv_aload_n hx hb dX4_init_51 rfl (lv_at hl 0 rfl) ?_
  refine lv_bipush (v := (64 : Int32)) hx hb dX4_init_52 (by decide) ?_
  refine r_newa (tys := tysC T) (atype := .int) (a0 := (64, .inl (fun _ => 0))) hx hb (hts _ kX4_init_ar_int) rfl (fun _ h9 => by cases h9) 0 rfl hK hP hD hS hA (fun _ => rfl) (by decide) (N' := 64) rfl (by decide) (Nat.le_of_ble_eq_true rfl) (Nat.le_of_ble_eq_true rfl) dX4_init_54 (fun q6 H hP hD hS => ?_)
  have hP : va_P D vwCl [(h0, .inr (4, [.null, .int (-1 : Int32), .ref q1, .ref q2, .ref q3, .ref q4, .ref q5, .null])), (q1, .inl (T 0, 768, .inl (fun _ => 0))), (q2, .inl (T 0, 768, .inl (fun _ => 0))), (q3, .inl (T 0, 64, .inl (fun _ => 0))), (q4, .inl (T 0, 64, .inl (fun _ => 0))), (q5, .inl (T 0, 64, .inl (fun _ => 0))), (q6, .inl (T 0, 64, .inl (fun _ => 0)))] H := hP
  have hD : va_D A [(h0, .inr (4, [.null, .int (-1 : Int32), .ref q1, .ref q2, .ref q3, .ref q4, .ref q5, .null])), (q1, .inl (T 0, 768, .inl (fun _ => 0))), (q2, .inl (T 0, 768, .inl (fun _ => 0))), (q3, .inl (T 0, 64, .inl (fun _ => 0))), (q4, .inl (T 0, 64, .inl (fun _ => 0))), (q5, .inl (T 0, 64, .inl (fun _ => 0))), (q6, .inl (T 0, 64, .inl (fun _ => 0)))] := hD
  refine W.widen (k := 6) (n := 1792) (by decide) (by decide) ?_
  refine va_putF (D := D) (ci := 4) (v := .ref q6) (ty := (.array .int)) (C := RX4) (T := TX4) (N := 8) hx hb hts kX4_init_iX4 tyX4 tyX4_ok nmX4 hown hK hP hD hS 0 rfl rfl 7 (by decide) (hts _ kX4_init_f31) (fun _ h9 => h9) rfl hin rfl (by decide +kernel) rfl rfl (Nat.le_of_ble_eq_true rfl) dX4_init_56 (fun H locs hP hD hS => ?_)
  have hP : va_P D vwCl [(h0, .inr (4, [.null, .int (-1 : Int32), .ref q1, .ref q2, .ref q3, .ref q4, .ref q5, .ref q6])), (q1, .inl (T 0, 768, .inl (fun _ => 0))), (q2, .inl (T 0, 768, .inl (fun _ => 0))), (q3, .inl (T 0, 64, .inl (fun _ => 0))), (q4, .inl (T 0, 64, .inl (fun _ => 0))), (q5, .inl (T 0, 64, .inl (fun _ => 0))), (q6, .inl (T 0, 64, .inl (fun _ => 0)))] H := hP
  have hD : va_D A [(h0, .inr (4, [.null, .int (-1 : Int32), .ref q1, .ref q2, .ref q3, .ref q4, .ref q5, .ref q6])), (q1, .inl (T 0, 768, .inl (fun _ => 0))), (q2, .inl (T 0, 768, .inl (fun _ => 0))), (q3, .inl (T 0, 64, .inl (fun _ => 0))), (q4, .inl (T 0, 64, .inl (fun _ => 0))), (q5, .inl (T 0, 64, .inl (fun _ => 0))), (q6, .inl (T 0, 64, .inl (fun _ => 0)))] := hD
  refine lv_aload_n hx hb dX4_init_59 rfl (lv_at hl 0 rfl) ?_
  refine lv_aload_n hx hb dX4_init_60 rfl (lv_at hl 1 rfl) ?_
  refine va_putF (D := D) (ci := 4) (v := .ref p1) (ty := (.object "PeckYard$Muster")) (C := RX4) (T := TX4) (N := 8) hx hb hts kX4_init_iX4 tyX4 tyX4_ok nmX4 hown hK hP hD hS 0 rfl rfl 0 (by decide) (hts _ kX4_init_f34) (fun _ h9 => h9) rfl hin rfl (by decide +kernel) rfl rfl (Nat.le_of_ble_eq_true rfl) dX4_init_61 (fun H locs hP hD hS => ?_)
  have hP : va_P D vwCl [(h0, .inr (4, [.ref p1, .int (-1 : Int32), .ref q1, .ref q2, .ref q3, .ref q4, .ref q5, .ref q6])), (q1, .inl (T 0, 768, .inl (fun _ => 0))), (q2, .inl (T 0, 768, .inl (fun _ => 0))), (q3, .inl (T 0, 64, .inl (fun _ => 0))), (q4, .inl (T 0, 64, .inl (fun _ => 0))), (q5, .inl (T 0, 64, .inl (fun _ => 0))), (q6, .inl (T 0, 64, .inl (fun _ => 0)))] H := hP
  have hD : va_D A [(h0, .inr (4, [.ref p1, .int (-1 : Int32), .ref q1, .ref q2, .ref q3, .ref q4, .ref q5, .ref q6])), (q1, .inl (T 0, 768, .inl (fun _ => 0))), (q2, .inl (T 0, 768, .inl (fun _ => 0))), (q3, .inl (T 0, 64, .inl (fun _ => 0))), (q4, .inl (T 0, 64, .inl (fun _ => 0))), (q5, .inl (T 0, 64, .inl (fun _ => 0))), (q6, .inl (T 0, 64, .inl (fun _ => 0)))] := hD
  exact W.vret hx hb hr (fun t ht hW => ⟨⟨(fun k => [q1, q2, q3, q4, q5, q6].getD k 0), rfl, trivial, by rw [ht]; exact hP, va_K.moved hW.alike hK, hD⟩, hS.F ht⟩) hS.2.2 dX4_init_64
