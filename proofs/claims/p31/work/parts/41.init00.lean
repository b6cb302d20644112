-- PeckYard$Flock.<init>()V
theorem kX2_init_m3 : Cond.methodLink RX2 3 objectInit ∈ wsX2_init := by decide +kernel
theorem kX2_init_imO : Cond.instanceMethod objectInit ∈ wsX2_init := by decide +kernel
theorem kX2_init_cdO : Cond.code objectInit ⟨#[0xb1]⟩ 1 none ∈ wsX2_init := by decide +kernel
theorem kX2_init_ar_int : Cond.arrayClass .int ∈ wsX2_init := by decide +kernel
theorem kX2_init_f9 : Cond.fieldLink RX2 9 "PeckYard$Flock" "kind" "[I" ∈ wsX2_init := by decide +kernel
theorem kX2_init_iX2 : ∀ w ∈ u_ws RX2 TX2 7, w ∈ wsX2_init := by decide +kernel
theorem kX2_init_f15 : Cond.fieldLink RX2 15 "PeckYard$Flock" "asks" "[I" ∈ wsX2_init := by decide +kernel
theorem kX2_init_f18 : Cond.fieldLink RX2 18 "PeckYard$Flock" "takenIn" "[I" ∈ wsX2_init := by decide +kernel
theorem kX2_init_f21 : Cond.fieldLink RX2 21 "PeckYard$Flock" "width" "[I" ∈ wsX2_init := by decide +kernel
theorem kX2_init_f24 : Cond.fieldLink RX2 24 "PeckYard$Flock" "weights" "[I" ∈ wsX2_init := by decide +kernel
def rmX2_init : Room := { frames := 1, cells := 5, slots := 192, locals := 20 }
set_option maxHeartbeats 1000000 in
set_option maxRecDepth 100000 in
theorem mX2_init (l : Launch) (D : va_G) (T : Nat → ClassId) (h0 : Nat) (sz : Nat) : Met l yX2_init wsX2_init rmX2_init (va_Pc [.ref h0] (fun U => U.heap.size = sz ∧ va_P D vwCl [(h0, .inr (2, [.int 0, .int 0, .null, .null, .null, .null, .null]))] U.heap ∧ va_K D vwCl (tysC T) U ∧ va_D (fun _ => True) [(h0, .inr (2, [.int 0, .int 0, .null, .null, .null, .null, .null]))] ∧ (∀ w ∈ nwL, va_Nw w U) ∧ va_AO "PeckYard$Change" U)) (va_Qv (fun _ : Nat → Nat => True) (fun (u : Nat → Nat) t => va_P D vwCl [(h0, .inr (2, [.int 0, .int 0, .ref (u 0), .ref (u 1), .ref (u 2), .ref (u 3), .ref (u 4)])), ((u 0), .inl (T 0, 12, .inl (fun _ => 0))), ((u 1), .inl (T 0, 12, .inl (fun _ => 0))), ((u 2), .inl (T 0, 12, .inl (fun _ => 0))), ((u 3), .inl (T 0, 12, .inl (fun _ => 0))), ((u 4), .inl (T 0, 144, .inl (fun _ => 0)))] t.heap ∧ va_K D vwCl (tysC T) t ∧ va_D (va_A [(h0, .inr (2, [.int 0, .int 0, .null, .null, .null, .null, .null]))] sz) [(h0, .inr (2, [.int 0, .int 0, .ref (u 0), .ref (u 1), .ref (u 2), .ref (u 3), .ref (u 4)])), ((u 0), .inl (T 0, 12, .inl (fun _ => 0))), ((u 1), .inl (T 0, 12, .inl (fun _ => 0))), ((u 2), .inl (T 0, 12, .inl (fun _ => 0))), ((u 3), .inl (T 0, 12, .inl (fun _ => 0))), ((u 4), .inl (T 0, 144, .inl (fun _ => 0)))]) (va_A [(h0, .inr (2, [.int 0, .int 0, .null, .null, .null, .null, .null]))] sz)) 5 192 (va_A [(h0, .inr (2, [.int 0, .int 0, .null, .null, .null, .null, .null]))] sz) := by
  refine Met.ofW (cc := cX2_init) (maxL := 1) (ret := none) (by decide) rfl ?_
  intro p e s m args below meth c s₁ B hml hv
  obtain ⟨rfl, hsz, hP, hK, hD0, hnw, hao⟩ := hv
  have hx := B.exec
  have hb := B.bytes
  have hr := B.returns
  have hts := atoms_spec (ws := wsX2_init) B.pre
  have hown : s.vm.findClass RX2 = some m.cls := findClass_of_methodNamed B.named
  have hlocks := B.notSynchronized
  have hin : meth.name = "<init>" := (name_of_methodNamed B.named B.method).1
  subst hsz
  have hD := hD0.self (sz := s.heap.size)
  generalize hAe : va_A [(h0, .inr (2, [.int 0, .int 0, .null, .null, .null, .null, .null]))] s.heap.size = A at hD ⊢
  have hA : ∀ q : Nat, s.heap.size ≤ q → A q := fun q h => by rw [← hAe]; exact Or.inr h
  have hS : va_S A s.heap s.heap [] := va_S.rf
  have hP : va_P D vwCl [(h0, .inr (2, [.int 0, .int 0, .null, .null, .null, .null, .null]))] s.heap := hP
  have hl := lv_entry [.ref h0] (n := 1) (Nat.le_of_ble_eq_true rfl)
  rw [lg_entry_eq]
  generalize (lg_sl [.ref h0] ++ List.replicate (1 - (lg_sl [.ref h0]).length) Slot.unset).toArray = ls at hl ⊢
  have hl : lv_has ls 1 [(0, .ref h0)] := hl
  refine lv_aload_n hx hb dX2_init_0 rfl (lv_at hl 0 rfl) ?_
  refine W.objInit hx hb hown (hts _ kX2_init_m3) (hts _ kX2_init_imO) (hts _ kX2_init_cdO) rfl (by rw [hml]; exact hl.1) rfl dX2_init_1 (Nat.le_of_ble_eq_true rfl) (Nat.le_of_ble_eq_true rfl) ?_
  refine W.eq (g2 := F0 m 4 ls []) rfl ?_
  refine lv_aload_n hx hb dX2_init_4 rfl (lv_at hl 0 rfl) ?_
  refine lv_bipush (v := (12 : Int32)) hx hb dX2_init_5 (by decide) ?_
  refine r_newa (tys := tysC T) (atype := .int) (a0 := (12, .inl (fun _ => 0))) hx hb (hts _ kX2_init_ar_int) rfl (fun _ h9 => by cases h9) 0 rfl hK hP hD hS hA (fun _ => rfl) (by decide) (N' := 12) rfl (by decide) (Nat.le_of_ble_eq_true rfl) (Nat.le_of_ble_eq_true rfl) dX2_init_7 (fun q1 H hP hD hS => ?_)
  have hP : va_P D vwCl [(h0, .inr (2, [.int 0, .int 0, .null, .null, .null, .null, .null])), (q1, .inl (T 0, 12, .inl (fun _ => 0)))] H := hP
  have hD : va_D A [(h0, .inr (2, [.int 0, .int 0, .null, .null, .null, .null, .null])), (q1, .inl (T 0, 12, .inl (fun _ => 0)))] := hD
  refine W.widen (k := 1) (n := 12) (by decide) (by decide) ?_
  refine va_putF (D := D) (ci := 2) (v := .ref q1) (ty := (.array .int)) (C := RX2) (T := TX2) (N := 7) hx hb hts kX2_init_iX2 tyX2 tyX2_ok nmX2 hown hK hP hD hS 0 rfl rfl 2 (by decide) (hts _ kX2_init_f9) (fun _ h9 => h9) rfl hin rfl (by decide +kernel) rfl rfl (Nat.le_of_ble_eq_true rfl) dX2_init_9 (fun H locs hP hD hS => ?_)
  have hP : va_P D vwCl [(h0, .inr (2, [.int 0, .int 0, .ref q1, .null, .null, .null, .null])), (q1, .inl (T 0, 12, .inl (fun _ => 0)))] H := hP
  have hD : va_D A [(h0, .inr (2, [.int 0, .int 0, .ref q1, .null, .null, .null, .null])), (q1, .inl (T 0, 12, .inl (fun _ => 0)))] := hD
  refine lv_aload_n hx hb dX2_init_12 rfl (lv_at hl 0 rfl) ?_
  refine lv_bipush (v := (12 : Int32)) hx hb dX2_init_13 (by decide) ?_
  refine r_newa (tys := tysC T) (atype := .int) (a0 := (12, .inl (fun _ => 0))) hx hb (hts _ kX2_init_ar_int) rfl (fun _ h9 => by cases h9) 0 rfl hK hP hD hS hA (fun _ => rfl) (by decide) (N' := 12) rfl (by decide) (Nat.le_of_ble_eq_true rfl) (Nat.le_of_ble_eq_true rfl) dX2_init_15 (fun q2 H hP hD hS => ?_)
  have hP : va_P D vwCl [(h0, .inr (2, [.int 0, .int 0, .ref q1, .null, .null, .null, .null])), (q1, .inl (T 0, 12, .inl (fun _ => 0))), (q2, .inl (T 0, 12, .inl (fun _ => 0)))] H := hP
  have hD : va_D A [(h0, .inr (2, [.int 0, .int 0, .ref q1, .null, .null, .null, .null])), (q1, .inl (T 0, 12, .inl (fun _ => 0))), (q2, .inl (T 0, 12, .inl (fun _ => 0)))] := hD
  refine W.widen (k := 2) (n := 24) (by decide) (by decide) ?_
  refine va_putF (D := D) (ci := 2) (v := .ref q2) (ty := (.array .int)) (C := RX2) (T := TX2) (N := 7) hx hb hts kX2_init_iX2 tyX2 tyX2_ok nmX2 hown hK hP hD hS 0 rfl rfl 3 (by decide) (hts _ kX2_init_f15) (fun _ h9 => h9) rfl hin rfl (by decide +kernel) rfl rfl (Nat.le_of_ble_eq_true rfl) dX2_init_17 (fun H locs hP hD hS => ?_)
  have hP : va_P D vwCl [(h0, .inr (2, [.int 0, .int 0, .ref q1, .ref q2, .null, .null, .null])), (q1, .inl (T 0, 12, .inl (fun _ => 0))), (q2, .inl (T 0, 12, .inl (fun _ => 0)))] H := hP
  have hD : va_D A [(h0, .inr (2, [.int 0, .int 0, .ref q1, .ref q2, .null, .null, .null])), (q1, .inl (T 0, 12, .inl (fun _ => 0))), (q2, .inl (T 0, 12, .inl (fun _ => 0)))] := hD
  refine lv_aload_n hx hb dX2_init_20 rfl (lv_at hl 0 rfl) ?_
  refine lv_bipush (v := (12 : Int32)) hx hb dX2_init_21 (by decide) ?_
  refine r_newa (tys := tysC T) (atype := .int) (a0 := (12, .inl (fun _ => 0))) hx hb (hts _ kX2_init_ar_int) rfl (fun _ h9 => by cases h9) 0 rfl hK hP hD hS hA (fun _ => rfl) (by decide) (N' := 12) rfl (by decide) (Nat.le_of_ble_eq_true rfl) (Nat.le_of_ble_eq_true rfl) dX2_init_23 (fun q3 H hP hD hS => ?_)
  have hP : va_P D vwCl [(h0, .inr (2, [.int 0, .int 0, .ref q1, .ref q2, .null, .null, .null])), (q1, .inl (T 0, 12, .inl (fun _ => 0))), (q2, .inl (T 0, 12, .inl (fun _ => 0))), (q3, .inl (T 0, 12, .inl (fun _ => 0)))] H := hP
  have hD : va_D A [(h0, .inr (2, [.int 0, .int 0, .ref q1, .ref q2, .null, .null, .null])), (q1, .inl (T 0, 12, .inl (fun _ => 0))), (q2, .inl (T 0, 12, .inl (fun _ => 0))), (q3, .inl (T 0, 12, .inl (fun _ => 0)))] := hD
  refine W.widen (k := 3) (n := 36) (by decide) (by decide) ?_
  refine va_putF (D := D) (ci := 2) (v := .ref q3) (ty := (.array .int)) (C := RX2) (T := TX2) (N := 7) hx hb hts kX2_init_iX2 tyX2 tyX2_ok nmX2 hown hK hP hD hS 0 rfl rfl 4 (by decide) (hts _ kX2_init_f18) (fun _ h9 => h9) rfl hin rfl (by decide +kernel) rfl rfl (Nat.le_of_ble_eq_true rfl) dX2_init_25 (fun H locs hP hD hS => ?_)
  have hP : va_P D vwCl [(h0, .inr (2, [.int 0, .int 0, .ref q1, .ref q2, .ref q3, .null, .null])), (q1, .inl (T 0, 12, .inl (fun _ => 0))), (q2, .inl (T 0, 12, .inl (fun _ => 0))), (q3, .inl (T 0, 12, .inl (fun _ => 0)))] H := hP
  have hD : va_D A [(h0, .inr (2, [.int 0, .int 0, .ref q1, .ref q2, .ref q3, .null, .null])), (q1, .inl (T 0, 12, .inl (fun _ => 0))), (q2, .inl (T 0, 12, .inl (fun _ => 0))), (q3, .inl (T 0, 12, .inl (fun _ => 0)))] := hD
  refine lv_aload_n hx hb dX2_init_28 rfl (lv_at hl 0 rfl) ?_
  refine lv_bipush (v := (12 : Int32)) hx hb dX2_init_29 (by decide) ?_
  refine r_newa (tys := tysC T) (atype := .int) (a0 := (12, .inl (fun _ => 0))) hx hb (hts _ kX2_init_ar_int) rfl (fun _ h9 => by cases h9) 0 rfl hK hP hD hS hA (fun _ => rfl) (by decide) (N' := 12) rfl (by decide) (Nat.le_of_ble_eq_true rfl) (Nat.le_of_ble_eq_true rfl) dX2_init_31 (fun q4 H hP hD hS => ?_)
  have hP : va_P D vwCl [(h0, .inr (2, [.int 0, .int 0, .ref q1, .ref q2, .ref q3, .null, .null])), (q1, .inl (T 0, 12, .inl (fun _ => 0))), (q2, .inl (T 0, 12, .inl (fun _ => 0))), (q3, .inl (T 0, 12, .inl (fun _ => 0))), (q4, .inl (T 0, 12, .inl (fun _ => 0)))] H := hP
  have hD : va_D A [(h0, .inr (2, [.int 0, .int 0, .ref q1, .ref q2, .ref q3, .null, .null])), (q1, .inl (T 0, 12, .inl (fun _ => 0))), (q2, .inl (T 0, 12, .inl (fun _ => 0))), (q3, .inl (T 0, 12, .inl (fun _ => 0))), (q4, .inl (T 0, 12, .inl (fun _ => 0)))] := hD
  refine W.widen (k := 4) (n := 48) (by decide) (by decide) ?_
  refine va_putF (D := D) (ci := 2) (v := .ref q4) (ty := (.array .int)) (C := RX2) (T := TX2) (N := 7) hx hb hts kX2_init_iX2 tyX2 tyX2_ok nmX2 hown hK hP hD hS 0 rfl rfl 5 (by decide) (hts _ kX2_init_f21) (fun _ h9 => h9) rfl hin rfl (by decide +kernel) rfl rfl (Nat.le_of_ble_eq_true rfl) dX2_init_33 (fun H locs hP hD hS => ?_)
  have hP : va_P D vwCl [(h0, .inr (2, [.int 0, .int 0, .ref q1, .ref q2, .ref q3, .ref q4, .null])), (q1, .inl (T 0, 12, .inl (fun _ => 0))), (q2, .inl (T 0, 12, .inl (fun _ => 0))), (q3, .inl (T 0, 12, .inl (fun _ => 0))), (q4, .inl (T 0, 12, .inl (fun _ => 0)))] H := hP
  have hD : va_D A [(h0, .inr (2, [.int 0, .int 0, .ref q1, .ref q2, .ref q3, .ref q4, .null])), (q1, .inl (T 0, 12, .inl (fun _ => 0))), (q2, .inl (T 0, 12, .inl (fun _ => 0))), (q3, .inl (T 0, 12, .inl (fun _ => 0))), (q4, .inl (T 0, 12, .inl (fun _ => 0)))] := hD
  refine lv_aload_n hx hb dX2_init_36 rfl (lv_at hl 0 rfl) ?_
  refine lv_sipush (v := (144 : Int32)) hx hb dX2_init_37 (by decide) ?_
  refine r_newa (tys := tysC T) (atype := .int) (a0 := (144, .inl (fun _ => 0))) hx hb (hts _ kX2_init_ar_int) rfl (fun _ h9 => by cases h9) 0 rfl hK hP hD hS hA (fun _ => rfl) (by decide) (N' := 144) rfl (by decide) (Nat.le_of_ble_eq_true rfl) (Nat.le_of_ble_eq_true rfl) dX2_init_40 (fun q5 H hP hD hS => ?_)
  have hP : va_P D vwCl [(h0, .inr (2, [.int 0, .int 0, .ref q1, .ref q2, .ref q3, .ref q4, .null])), (q1, .inl (T 0, 12, .inl (fun _ => 0))), (q2, .inl (T 0, 12, .inl (fun _ => 0))), (q3, .inl (T 0, 12, .inl (fun _ => 0))), (q4, .inl (T 0, 12, .inl (fun _ => 0))), (q5, .inl (T 0, 144, .inl (fun _ => 0)))] H := hP
  have hD : va_D A [(h0, .inr (2, [.int 0, .int 0, .ref q1, .ref q2, .ref q3, .ref q4, .null])), (q1, .inl (T 0, 12, .inl (fun _ => 0))), (q2, .inl (T 0, 12, .inl (fun _ => 0))), (q3, .inl (T 0, 12, .inl (fun _ => 0))), (q4, .inl (T 0, 12, .inl (fun _ => 0))), (q5, .inl (T 0, 144, .inl (fun _ => 0)))] := hD
  refine W.widen (k := 5) (n := 192) (by decide) (by decide) ?_
  refine va_putF (D := D) (ci := 2) (v := .ref q5) (ty := (.array .int)) (C := RX2) (T := TX2) (N := 7) hx hb hts kX2_init_iX2 tyX2 tyX2_ok nmX2 hown hK hP hD hS 0 rfl rfl 6 (by decide) (hts _ kX2_init_f24) (fun _ h9 => h9) rfl hin rfl (by decide +kernel) rfl rfl (Nat.le_of_ble_eq_true rfl) dX2_init_42 (fun H locs hP hD hS => ?_)
  have hP : va_P D vwCl [(h0, .inr (2, [.int 0, .int 0, .ref q1, .ref q2, .ref q3, .ref q4, .ref q5])), (q1, .inl (T 0, 12, .inl (fun _ => 0))), (q2, .inl (T 0, 12, .inl (fun _ => 0))), (q3, .inl (T 0, 12, .inl (fun _ => 0))), (q4, .inl (T 0, 12, .inl (fun _ => 0))), (q5, .inl (T 0, 144, .inl (fun _ => 0)))] H := hP
  have hD : va_D A [(h0, .inr (2, [.int 0, .int 0, .ref q1, .ref q2, .ref q3, .ref q4, .ref q5])), (q1, .inl (T 0, 12, .inl (fun _ => 0))), (q2, .inl (T 0, 12, .inl (fun _ => 0))), (q3, .inl (T 0, 12, .inl (fun _ => 0))), (q4, .inl (T 0, 12, .inl (fun _ => 0))), (q5, .inl (T 0, 144, .inl (fun _ => 0)))] := hD
  exact W.vret hx hb hr (fun t ht hW => ⟨⟨(fun k => [q1, q2, q3, q4, q5].getD k 0), rfl, trivial, by rw [ht]; exact hP, va_K.moved hW.alike hK, hD⟩, hS.F ht⟩) hS.2.2 dX2_init_45
