-- PeckYard$Leads.<init>(LPeckYard$Muster;)V
theorem kX6_init_m3 : Cond.methodLink RX6 3 objectInit ∈ wsX6_init := by decide +kernel
theorem kX6_init_imO : Cond.instanceMethod objectInit ∈ wsX6_init := by decide +kernel
theorem kX6_init_cdO : Cond.code objectInit ⟨#[0xb1]⟩ 1 none ∈ wsX6_init := by decide +kernel
theorem kX6_init_ar_int : Cond.arrayClass .int ∈ wsX6_init := by decide +kernel
theorem kX6_init_f9 : Cond.fieldLink RX6 9 "PeckYard$Leads" "leads" "[I" ∈ wsX6_init := by decide +kernel
theorem kX6_init_iX6 : ∀ w ∈ u_ws RX6 TX6 3, w ∈ wsX6_init := by decide +kernel
theorem kX6_init_f15 : Cond.fieldLink RX6 15 "PeckYard$Leads" "blocks" "[I" ∈ wsX6_init := by decide +kernel
theorem kX6_init_f18 : Cond.fieldLink RX6 18 "PeckYard$Leads" "muster" "LPeckYard$Muster;" ∈ wsX6_init := by decide +kernel
def rmX6_init : Room := { frames := 1, cells := 2, slots := 24, locals := 20 }
set_option maxHeartbeats 1000000 in
set_option maxRecDepth 100000 in
theorem mX6_init (l : Launch) (D : va_G) (T : Nat → ClassId) (h0 p1 : Nat) (sz : Nat) : Met l yX6_init wsX6_init rmX6_init (va_Pc [.ref h0, .ref p1] (fun U => U.heap.size = sz ∧ va_P D vwCl [(h0, .inr (6, [.null, .null, .null]))] U.heap ∧ va_K D vwCl (tysC T) U ∧ va_D (fun _ => True) [(h0, .inr (6, [.null, .null, .null]))] ∧ (∀ w ∈ nwL, va_Nw w U) ∧ va_AO "PeckYard$Change" U)) (va_Qv (fun _ : Nat → Nat => True) (fun (u : Nat → Nat) t => va_P D vwCl [(h0, .inr (6, [.ref p1, .ref (u 0), .ref (u 1)])), ((u 0), .inl (T 0, 12, .inl (fun _ => 0))), ((u 1), .inl (T 0, 12, .inl (fun _ => 0)))] t.heap ∧ va_K D vwCl (tysC T) t ∧ va_D (va_A [(h0, .inr (6, [.null, .null, .null]))] sz) [(h0, .inr (6, [.ref p1, .ref (u 0), .ref (u 1)])), ((u 0), .inl (T 0, 12, .inl (fun _ => 0))), ((u 1), .inl (T 0, 12, .inl (fun _ => 0)))]) (va_A [(h0, .inr (6, [.null, .null, .null]))] sz)) 2 24 (va_A [(h0, .inr (6, [.null, .null, .null]))] sz) := by
  refine Met.ofW (cc := cX6_init) (maxL := 2) (ret := none) (by decide) rfl ?_
  intro p e s m args below meth c s₁ B hml hv
  obtain ⟨rfl, hsz, hP, hK, hD0, hnw, hao⟩ := hv
  have hx := B.exec
  have hb := B.bytes
  have hr := B.returns
  have hts := atoms_spec (ws := wsX6_init) B.pre
  have hown : s.vm.findClass RX6 = some m.cls := findClass_of_methodNamed B.named
  have hlocks := B.notSynchronized
  have hin : meth.name = "<init>" := (name_of_methodNamed B.named B.method).1
  subst hsz
  have hD := hD0.self (sz := s.heap.size)
  generalize hAe : va_A [(h0, .inr (6, [.null, .null, .null]))] s.heap.size = A at hD ⊢
  have hA : ∀ q : Nat, s.heap.size ≤ q → A q := fun q h => by rw [← hAe]; exact Or.inr h
  have hS : va_S A s.heap s.heap [] := va_S.rf
  have hP : va_P D vwCl [(h0, .inr (6, [.null, .null, .null]))] s.heap := hP
  have hl := lv_entry [.ref h0, .ref p1] (n := 2) (Nat.le_of_ble_eq_true rfl)
  rw [lg_entry_eq]
  generalize (lg_sl [.ref h0, .ref p1] ++ List.replicate (2 - (lg_sl [.ref h0, .ref p1]).length) Slot.unset).toArray = ls at hl ⊢
  have hl : lv_has ls 2 [(0, .ref h0), (1, .ref p1)] := hl
  refine lv_aload_n hx hb dX6_init_0 rfl (lv_at hl 0 rfl) ?_
  refine W.objInit hx hb hown (hts _ kX6_init_m3) (hts _ kX6_init_imO) (hts _ kX6_init_cdO) rfl (by rw [hml]; exact hl.1) rfl dX6_init_1 (Nat.le_of_ble_eq_true rfl) (Nat.le_of_ble_eq_true rfl) ?_
  refine W.eq (g2 := F0 m 4 ls []) rfl ?_
  refine lv_aload_n hx hb dX6_init_4 rfl (lv_at hl 0 rfl) ?_
  refine lv_bipush (v := (12 : Int32)) hx hb dX6_init_5 (by decide) ?_
  refine r_newa (tys := tysC T) (atype := .int) (a0 := (12, .inl (fun _ => 0))) hx hb (hts _ kX6_init_ar_int) rfl (fun _ h9 => by cases h9) 0 rfl hK hP hD hS hA (fun _ => rfl) (by decide) (N' := 12) rfl (by decide) (Nat.le_of_ble_eq_true rfl) (Nat.le_of_ble_eq_true rfl) dX6_init_7 (fun q1 H hP hD hS => ?_)
  have hP : va_P D vwCl [(h0, .inr (6, [.null, .null, .null])), (q1, .inl (T 0, 12, .inl (fun _ => 0)))] H := hP
  have hD : va_D A [(h0, .inr (6, [.null, .null, .null])), (q1, .inl (T 0, 12, .inl (fun _ => 0)))] := hD
  refine W.widen (k := 1) (n := 12) (by decide) (by decide) ?_
  refine va_putF (D := D) (ci := 6) (v := .ref q1) (ty := (.array .int)) (C := RX6) (T := TX6) (N := 3) hx hb hts kX6_init_iX6 tyX6 tyX6_ok nmX6 hown hK hP hD hS 0 rfl rfl 1 (by decide) (hts _ kX6_init_f9) (fun _ h9 => h9) rfl hin rfl (by decide +kernel) rfl rfl (Nat.le_of_ble_eq_true rfl) dX6_init_9 (fun H locs hP hD hS => ?_)
  have hP : va_P D vwCl [(h0, .inr (6, [.null, .ref q1, .null])), (q1, .inl (T 0, 12, .inl (fun _ => 0)))] H := hP
  have hD : va_D A [(h0, .inr (6, [.null, .ref q1, .null])), (q1, .inl (T 0, 12, .inl (fun _ => 0)))] := hD
  refine lv_aload_n hx hb dX6_init_12 rfl (lv_at hl 0 rfl) ?_
  refine lv_bipush (v := (12 : Int32)) hx hb dX6_init_13 (by decide) ?_
  refine r_newa (tys := tysC T) (atype := .int) (a0 := (12, .inl (fun _ => 0))) hx hb (hts _ kX6_init_ar_int) rfl (fun _ h9 => by cases h9) 0 rfl hK hP hD hS hA (fun _ => rfl) (by decide) (N' := 12) rfl (by decide) (Nat.le_of_ble_eq_true rfl) (Nat.le_of_ble_eq_true rfl) dX6_init_15 (fun q2 H hP hD hS => ?_)
  have hP : va_P D vwCl [(h0, .inr (6, [.null, .ref q1, .null])), (q1, .inl (T 0, 12, .inl (fun _ => 0))), (q2, .inl (T 0, 12, .inl (fun _ => 0)))] H := hP
  have hD : va_D A [(h0, .inr (6, [.null, .ref q1, .null])), (q1, .inl (T 0, 12, .inl (fun _ => 0))), (q2, .inl (T 0, 12, .inl (fun _ => 0)))] := hD
  refine W.widen (k := 2) (n := 24) (by decide) (by decide) ?_
  refine va_putF (D := D) (ci := 6) (v := .ref q2) (ty := (.array .int)) (C := RX6) (T := TX6) (N := 3) hx hb hts kX6_init_iX6 tyX6 tyX6_ok nmX6 hown hK hP hD hS 0 rfl rfl 2 (by decide) (hts _ kX6_init_f15) (fun _ h9 => h9) rfl hin rfl (by decide +kernel) rfl rfl (Nat.le_of_ble_eq_true rfl) dX6_init_17 (fun H locs hP hD hS => ?_)
  have hP : va_P D vwCl [(h0, .inr (6, [.null, .ref q1, .ref q2])), (q1, .inl (T 0, 12, .inl (fun _ => 0))), (q2, .inl (T 0, 12, .inl (fun _ => 0)))] H := hP
  have hD : va_D A [(h0, .inr (6, [.null, .ref q1, .ref q2])), (q1, .inl (T 0, 12, .inl (fun _ => 0))), (q2, .inl (T 0, 12, .inl (fun _ => 0)))] := hD
  refine lv_aload_n hx hb dX6_init_20 rfl (lv_at hl 0 rfl) ?_
  refine lv_aload_n hx hb dX6_init_21 rfl (lv_at hl 1 rfl) ?_
  refine va_putF (D := D) (ci := 6) (v := .ref p1) (ty := (.object "PeckYard$Muster")) (C := RX6) (T := TX6) (N := 3) hx hb hts kX6_init_iX6 tyX6 tyX6_ok nmX6 hown hK hP hD hS 0 rfl rfl 0 (by decide) (hts _ kX6_init_f18) (fun _ h9 => h9) rfl hin rfl (by decide +kernel) rfl rfl (Nat.le_of_ble_eq_true rfl) dX6_init_22 (fun H locs hP hD hS => ?_)
  have hP : va_P D vwCl [(h0, .inr (6, [.ref p1, .ref q1, .ref q2])), (q1, .inl (T 0, 12, .inl (fun _ => 0))), (q2, .inl (T 0, 12, .inl (fun _ => 0)))] H := hP
  have hD : va_D A [(h0, .inr (6, [.ref p1, .ref q1, .ref q2])), (q1, .inl (T 0, 12, .inl (fun _ => 0))), (q2, .inl (T 0, 12, .inl (fun _ => 0)))] := hD
  exact W.vret hx hb hr (fun t ht hW => ⟨⟨(fun k => [q1, q2].getD k 0), rfl, trivial, by rw [ht]; exact hP, va_K.moved hW.alike hK, hD⟩, hS.F ht⟩) hS.2.2 dX6_init_25
