theorem kL_cl7 : Cond.classLink RL 7 RX11 ∈ lw_tbl := by decide +kernel
theorem kL_cl10 : Cond.classLink RL 10 RX12 ∈ lw_tbl := by decide +kernel
theorem kL_in0 : Cond.instantiable RX0 6 ∈ lw_tbl := by decide +kernel
theorem kL_in1 : Cond.instantiable RX1 3 ∈ lw_tbl := by decide +kernel
theorem kL_in2 : Cond.instantiable RX2 7 ∈ lw_tbl := by decide +kernel
theorem kL_in3 : Cond.instantiable RX3 5 ∈ lw_tbl := by decide +kernel
theorem kL_in4 : Cond.instantiable RX4 8 ∈ lw_tbl := by decide +kernel
theorem kL_in5 : Cond.instantiable RX5 2 ∈ lw_tbl := by decide +kernel
theorem kL_in6 : Cond.instantiable RX6 3 ∈ lw_tbl := by decide +kernel
theorem kL_in7 : Cond.instantiable RX7 4 ∈ lw_tbl := by decide +kernel
theorem kL_in8 : Cond.instantiable RX8 10 ∈ lw_tbl := by decide +kernel
theorem kL_in9 : Cond.instantiable RX9 11 ∈ lw_tbl := by decide +kernel
theorem kL_in10 : Cond.instantiable RX10 10 ∈ lw_tbl := by decide +kernel
theorem kL_in11 : Cond.instantiable RX11 9 ∈ lw_tbl := by decide +kernel
theorem kL_in12 : Cond.instantiable RX12 18 ∈ lw_tbl := by decide +kernel
theorem kL_ini11 : Cond.initialized RX11 ∈ lw_tbl := by decide +kernel
theorem kL_ini12 : Cond.initialized RX12 ∈ lw_tbl := by decide +kernel
theorem kL_m9 : Cond.methodLink RL 9 yX11_init ∈ lw_tbl := by decide +kernel
theorem kL_m12 : Cond.methodLink RL 12 yX12_init ∈ lw_tbl := by decide +kernel
theorem kL_im11 : Cond.instanceMethod yX11_init ∈ lw_tbl := by decide +kernel
theorem kL_im12 : Cond.instanceMethod yX12_init ∈ lw_tbl := by decide +kernel
theorem kL_ar_int : Cond.arrayClass .int ∈ lw_tbl := by decide +kernel
theorem kL_ar_byte : Cond.arrayClass .byte ∈ lw_tbl := by decide +kernel
theorem kL_ar_boolean : Cond.arrayClass .boolean ∈ lw_tbl := by decide +kernel
theorem kL_ar_long : Cond.arrayClass .long ∈ lw_tbl := by decide +kernel
theorem kL_ao : Cond.arrayOver (.object "PeckYard$Change") ∈ lw_tbl := by decide +kernel
theorem kL_ls : Cond.laysStatic "PeckYard" "MOST_OF_WIDTH" "[I" ∈ lw_tbl := by decide +kernel
theorem nwL_in : ∀ w ∈ nwL, w ∈ lw_tbl := by decide +kernel
theorem NestW.tab {w : Cond} (h : NestW w) : w.onTables = true := by
  rcases h with ⟨a, i, x, h, rfl⟩ | ⟨a, i, b, n, d, h, rfl⟩ <;> rfl
/-- what the law's start gives: classes, array classes, the table of widths -/
theorem law_known {p : Program} {s : State} {m : MethodId} {meth : Method} {c : Code} {b L : Nat} {xs : Nat → Int32} (C0 : lw_At p s m meth c b L xs) : ∃ (D : va_G) (T : Nat → ClassId), va_K D vwCl (tysC T) s ∧ va_K D vwCl (tysM T) s ∧ SPx true nwL (AL s) s := by
  obtain ⟨hx, hb, hr, hml, hown, hts, hX, hbl, hlocks, hgv⟩ := id C0
  obtain ⟨c0, iS0, hKn0⟩ := u_known (C := RX0) (T := TX0) (N := 6) (n := 6) hts (fun w h => (GL_wsX00 w h).1) (hts _ kL_in0)
  obtain ⟨c1, iS1, hKn1⟩ := u_known (C := RX1) (T := TX1) (N := 3) (n := 3) hts (fun w h => (GL_wsX10 w h).1) (hts _ kL_in1)
  obtain ⟨c2, iS2, hKn2⟩ := u_known (C := RX2) (T := TX2) (N := 7) (n := 7) hts (fun w h => (GL_wsX20 w h).1) (hts _ kL_in2)
  obtain ⟨c3, iS3, hKn3⟩ := u_known (C := RX3) (T := TX3) (N := 5) (n := 5) hts (fun w h => (GL_wsX30 w h).1) (hts _ kL_in3)
  obtain ⟨c4, iS4, hKn4⟩ := u_known (C := RX4) (T := TX4) (N := 8) (n := 8) hts (fun w h => (GL_wsX40 w h).1) (hts _ kL_in4)
  obtain ⟨c5, iS5, hKn5⟩ := u_known (C := RX5) (T := TX5) (N := 2) (n := 2) hts (fun w h => (GL_wsX50 w h).1) (hts _ kL_in5)
  obtain ⟨c6, iS6, hKn6⟩ := u_known (C := RX6) (T := TX6) (N := 3) (n := 3) hts (fun w h => (GL_wsX60 w h).1) (hts _ kL_in6)
  obtain ⟨c7, iS7, hKn7⟩ := u_known (C := RX7) (T := TX7) (N := 4) (n := 4) hts (fun w h => (GL_wsX70 w h).1) (hts _ kL_in7)
  obtain ⟨c8, iS8, hKn8⟩ := u_known (C := RX8) (T := TX8) (N := 10) (n := 10) hts (fun w h => (GL_wsX80 w h).1) (hts _ kL_in8)
  obtain ⟨c9, iS9, hKn9⟩ := u_known (C := RX9) (T := TX9) (N := 11) (n := 11) hts (fun w h => (GL_wsX90 w h).1) (hts _ kL_in9)
  obtain ⟨c10, iS10, hKn10⟩ := u_known (C := RX10) (T := TX10) (N := 10) (n := 10) hts (fun w h => (GL_wsX100 w h).1) (hts _ kL_in10)
  obtain ⟨c11, iS11, hKn11⟩ := u_known (C := RX11) (T := TX11) (N := 9) (n := 9) hts (fun w h => (GL_wsX110 w h).1) (hts _ kL_in11)
  obtain ⟨c12, iS12, hKn12⟩ := u_known (C := RX12) (T := TX12) (N := 18) (n := 18) hts (fun w h => (GL_wsX120 w h).1) (hts _ kL_in12)
  obtain ⟨D, hKc⟩ : ∃ (D : va_G), ∀ (k : Nat) (q : vw_C), vwCl[k]? = some q → u_Kn s q.1 q.2.1 q.2.2 (D.1 k) (D.2 k) := by
    refine ⟨(fun k => [c0, c1, c2, c3, c4, c5, c6, c7, c8, c9, c10, c11, c12].getD k c0, fun k => [iS0, iS1, iS2, iS3, iS4, iS5, iS6, iS7, iS8, iS9, iS10, iS11, iS12].getD k iS0), ?_⟩
    intro k q hq
    have hk : k < 13 := (List.getElem?_eq_some_iff.mp hq).1
    rcases (show k = 0 ∨ k = 1 ∨ k = 2 ∨ k = 3 ∨ k = 4 ∨ k = 5 ∨ k = 6 ∨ k = 7 ∨ k = 8 ∨ k = 9 ∨ k = 10 ∨ k = 11 ∨ k = 12 by omega) with rfl | rfl | rfl | rfl | rfl | rfl | rfl | rfl | rfl | rfl | rfl | rfl | rfl
    · cases hq; exact hKn0
    · cases hq; exact hKn1
    · cases hq; exact hKn2
    · cases hq; exact hKn3
    · cases hq; exact hKn4
    · cases hq; exact hKn5
    · cases hq; exact hKn6
    · cases hq; exact hKn7
    · cases hq; exact hKn8
    · cases hq; exact hKn9
    · cases hq; exact hKn10
    · cases hq; exact hKn11
    · cases hq; exact hKn12
  obtain ⟨t0, k0, u0, ha0, hb0, hc0⟩ := Cond.arrayClass_spec (hts _ kL_ar_int)
  obtain ⟨t1, k1, u1, ha1, hb1, hc1⟩ := Cond.arrayClass_spec (hts _ kL_ar_byte)
  obtain ⟨t2, k2, u2, ha2, hb2, hc2⟩ := Cond.arrayClass_spec (hts _ kL_ar_boolean)
  obtain ⟨t3, k3, u3, ha3, hb3, hc3⟩ := Cond.arrayClass_spec (hts _ kL_ar_long)
  obtain ⟨u4, t4, k4, ha4, hd4, hb4, hc4, he4⟩ := Cond.arrayOver_spec (hts _ kL_ao)
  have hT0 : ArrOfT s t0 .int ∧ va_RA s t0 .int := ⟨fun n z => ⟨fun k h => (by cases h), k0, hb0, u0, hc0⟩, ha0⟩
  have hT1 : ArrOfT s t1 .byte ∧ va_RA s t1 .byte := ⟨fun n z => ⟨fun k h => (by cases h), k1, hb1, u1, hc1⟩, ha1⟩
  have hT2 : ArrOfT s t2 .boolean ∧ va_RA s t2 .boolean := ⟨fun n z => ⟨fun k h => (by cases h), k2, hb2, u2, hc2⟩, ha2⟩
  have hT3 : ArrOfT s t3 .long ∧ va_RA s t3 .long := ⟨fun n z => ⟨fun k h => (by cases h), k3, hb3, u3, hc3⟩, ha3⟩
  have hT4 : ArrOfT s t4 (.object "PeckYard$Change") ∧ va_RA s t4 (.object "PeckYard$Change") := ⟨fun n z => ⟨fun k h => (by cases h), k4, hb4, u4, hc4⟩, k4, u4, hb4, hc4, ha4, he4⟩
  refine ⟨D, fun k => [t0, t1, t2, t3, t4].getD k t0, ⟨hKc, fun k q h => ?_⟩, ⟨hKc, fun k q h => ?_⟩, fun _ => ⟨?_, nwL_nest, fun w hw => va_Nw.of ((nwL_nest w hw).tab) (hts w (nwL_in w hw))⟩⟩
  · have hk : k < 3 := (List.getElem?_eq_some_iff.mp h).1
    rcases (show k = 0 ∨ k = 1 ∨ k = 2 by omega) with rfl | rfl | rfl
    · cases h; exact hT0
    · cases h; exact hT1
    · cases h; exact hT4
  · have hk : k < 3 := (List.getElem?_eq_some_iff.mp h).1
    rcases (show k = 0 ∨ k = 1 ∨ k = 2 by omega) with rfl | rfl | rfl
    · cases h; exact hT0
    · cases h; exact hT2
    · cases h; exact hT3
  · have hs := flat_of_before _ hgv
    have hA : ∀ a : Nat, a < s.heap.size → ¬ AL s a := fun a h => Nat.not_le.mpr h
    have harr : (Cond.arrayOf (.static "PeckYard" "MOST_OF_WIDTH" "[I") .int).before #[Value.ref b] s = true := hs _ (by decide +kernel)
    have hlen := va_eqt (hs (Cond.eq (.length (.static "PeckYard" "MOST_OF_WIDTH" "[I")) (.int 4)) (by decide +kernel))
    have h0 := va_eqt (hs (Cond.eq (.elem (.static "PeckYard" "MOST_OF_WIDTH" "[I") (.int 0)) (.int 127)) (by decide +kernel))
    have h1 := va_eqt (hs (Cond.eq (.elem (.static "PeckYard" "MOST_OF_WIDTH" "[I") (.int 1)) (.int 32767)) (by decide +kernel))
    have h2 := va_eqt (hs (Cond.eq (.elem (.static "PeckYard" "MOST_OF_WIDTH" "[I") (.int 2)) (.int 1000000)) (by decide +kernel))
    have h3 := va_eqt (hs (Cond.eq (.elem (.static "PeckYard" "MOST_OF_WIDTH" "[I") (.int 3)) (.int 1000000)) (by decide +kernel))
    obtain ⟨t, ht, hTt⟩ := va_Tof (N := 4) (f := spT) (A := AL s) (by decide) harr hlen (fun j hj => by
      rcases (show j = 0 ∨ j = 1 ∨ j = 2 ∨ j = 3 by omega) with rfl | rfl | rfl | rfl
      · exact h0
      · exact h1
      · exact h2
      · exact h3) hA
    exact ⟨t, va_Zref (hts _ kL_ls) (hts _ kL_ini11) ht hA, hTt⟩
set_option maxHeartbeats 4000000 in
set_option maxRecDepth 100000 in
/-- the law from its entry: what is left is what the calls do to the two states, Rel n after n calls -/
theorem law_start {p : Program} {e : Env} {s : State} {m : MethodId} {below : List Frame} {meth : Method} {c : Code} (l : Launch) {b L : Nat} {xs : Nat → Int32} (hL : L ≤ 2560) (C0 : lw_At p s m meth c b L xs) (Rel : Nat → Sg → Sg → Lg → Prop) (h0 : Rel 0 sgC0 sgM0 lg0)
    (step : ∀ (cn : Nat) (o a1 a2 a3 a4 : Int32) (sx sm : Sg) (lm : Lg), 5 * cn + 5 ≤ L → Rel cn sx sm lm → StepOK o a1 a2 a3 a4 (Rel (cn + 1)) sx sm lm) : W p l e room_1 s m #[Value.ref b] below meth c s.heap [] 0 0 (lw_Z below #[Value.ref b] s) (entryFrame m ([Value.ref b] : List Value).toArray 4) := by
  obtain ⟨D, T, hKC, hKM, hsp⟩ := law_known C0
  obtain ⟨hx, hb, hr, hml, hown, hts, hX, hbl, hlocks, hgv⟩ := id C0
  have hA : ∀ q : Nat, s.heap.size ≤ q → AL s q := fun _ h => h
  have hbA : ¬ AL s b := Nat.not_le.mpr hbl
  have CX : Cx p s m #[Value.ref b] meth c code 4 RL lw_tbl ret D vwCl (tysC T) (AL s) true nwL := ⟨⟨hx, hb, hml, hown, hts⟩, hr, hlocks, hKC, hA, hsp⟩
  have CM : Cx p s m #[Value.ref b] meth c code 4 RL lw_tbl ret D vwCl (tysM T) (AL s) false [] := ⟨⟨hx, hb, hml, hown, hts⟩, hr, hlocks, hKM, hA, fun h => by cases h⟩
  have hnw : ∀ w ∈ nwL, va_Nw w s := (hsp rfl).2.2
  have hao : va_AO "PeckYard$Change" s := va_AO.of (hts _ kL_ao)
  have hS : va_S (AL s) s.heap s.heap [] := va_S.rf
  have hP : va_P D vwCl [] s.heap := fun k q h => by simp at h
  have hD : va_D (AL s) [] := ⟨fun i j p q h => by simp at h, fun k q h => by simp at h⟩
  have hl := lv_entry ([.ref b]) (n := 4) (Nat.le_of_ble_eq_true rfl)
  rw [lg_entry_eq]
  generalize (lg_sl ([.ref b]) ++ List.replicate (4 - (lg_sl ([.ref b])).length) Slot.unset).toArray = ls at hl ⊢
  have hl : lv_has ls 4 [(0, .ref b)] := hl

  refine va_new (ci := 11) (fs := [.null, .null, .null, .null, .null, .null, .null, .null, .null]) (C := RX11) (T := TX11) (N := 9) hx hb hts (fun w h => (GL_wsX110 w h).1) tyX11 tyX11_ok hown (hts _ kL_cl7) (hts _ kL_in11) (hts _ kL_ini11) hKC hP hD hS hA rfl (fun j hj => by rcases (show j = 0 ∨ j = 1 ∨ j = 2 ∨ j = 3 ∨ j = 4 ∨ j = 5 ∨ j = 6 ∨ j = 7 ∨ j = 8 by omega) with rfl | rfl | rfl | rfl | rfl | rfl | rfl | rfl | rfl <;> rfl) (Nat.le_of_ble_eq_true rfl) (Nat.le_of_ble_eq_true rfl) dL_law_0 (fun q0 H hP hD hS => ?_)
  have hP : va_P D vwCl [(q0, .inr (11, [.null, .null, .null, .null, .null, .null, .null, .null, .null]))] H := hP
  have hD : va_D (AL s) [(q0, .inr (11, [.null, .null, .null, .null, .null, .null, .null, .null, .null]))] := hD
  refine W.widen (k := 1) (n := 9) (by decide) (by decide) ?_
  refine lv_dup hx hb dL_law_3 rfl ?_
  have hFc : ∀ q, va_A [(q0, .inr (11, [.null, .null, .null, .null, .null, .null, .null, .null, .null]))] H.size q → AL s q := by
    intro q h
    rcases h with ⟨k, x, h⟩ | h
    · exact hD.2 k (q, x) h
    · exact Nat.le_trans hS.1 h
  refine va_callv (va_runI (As := []) (rest := [.ref q0]) ⟨hx, hb, hml, hown, hts⟩ (mX11_init l D T q0 H.size) (cwI 0 hts GL_wsX11_init rfl rfl rfl (hts _ kL_ini11) (hts _ kL_m9) (hts _ kL_im11) rfl (by decide +kernel) ⟨Nat.le_of_ble_eq_true rfl, Nat.le_of_ble_eq_true rfl⟩) ⟨fun a U g mk q => by obtain ⟨q0, q1, qP, qK, qD, qN, qO⟩ := q; exact ⟨q0, q1, qP, va_K.moved (u := U) (U := U.calling g mk a) (Vm.Alike.refl U.vm) qK, qD, fun w hw => NestW.same (s := U) (U := U.calling g mk a) (nwL_nest w hw) rfl (qN w hw), qO⟩, fun U hU hW => ⟨rfl, by rw [hU], by rw [hU]; exact hP, va_K.moved hW.alike hKC, hD.weaken (fun _ _ _ _ => trivial), fun w hw => (nwL_nest w hw).warm hW (hnw w hw), hao.moved hW.alike⟩⟩ rfl rfl hl.1 rfl (lv_room (Nat.le_of_ble_eq_true rfl)) dL_law_4 ⟨Nat.le_of_ble_eq_true rfl, Nat.le_of_ble_eq_true rfl⟩) hS (fun q _ h => hFc q h) hFc (fun u t H1 locs ht hvm hw hB hz1 hk1 hS1 => ?_)
  obtain ⟨⟨a, g⟩, rfl⟩ : ∃ z, z = u := ⟨_, rfl⟩
  obtain ⟨hP1, hK1, hD1⟩ := hB
  rw [ht] at hP1
  have hw : a 0 = q0 := hw
  have hwx : WS ZC D vwCl T (adr a g) sgC0 lg0 (AL s) s.heap H1 locs := ⟨hP1, hD1.weaken (fun _ q _ h => hFc q.1 h), hS1⟩
  clear hP hD hS hP1 hK1 hD1 hFc hk1 hS1
  refine W.widen (k := 67) (n := 4576) (by decide) (by decide) ?_
  refine lv_astore_n (lv' := [(1, .ref (adr a g 0)), (0, .ref b)]) hx hb dL_law_7 rfl hl (by decide) (by rw [show adr a g 0 = q0 from hw]; rfl) (fun ls hl => ?_)
  refine va_new (ci := 12) (fs := [.null, .null, .int 0, .null, .int 0, .null, .null, .int 0, .int 0, .int 0, .null, .null, .null, .null, .null, .null, .null, .int 0]) (C := RX12) (T := TX12) (N := 18) hx hb hts (fun w h => (GL_wsX120 w h).1) tyX12 tyX12_ok hown (hts _ kL_cl10) (hts _ kL_in12) (hts _ kL_ini12) hKM hwx.1 hwx.2.1 hwx.2.2 hA rfl (fun j hj => by rcases (show j = 0 ∨ j = 1 ∨ j = 2 ∨ j = 3 ∨ j = 4 ∨ j = 5 ∨ j = 6 ∨ j = 7 ∨ j = 8 ∨ j = 9 ∨ j = 10 ∨ j = 11 ∨ j = 12 ∨ j = 13 ∨ j = 14 ∨ j = 15 ∨ j = 16 ∨ j = 17 by omega) with rfl | rfl | rfl | rfl | rfl | rfl | rfl | rfl | rfl | rfl | rfl | rfl | rfl | rfl | rfl | rfl | rfl | rfl <;> rfl) (Nat.le_of_ble_eq_true rfl) (Nat.le_of_ble_eq_true rfl) dL_law_8 (fun q1 H2 hPa hDa hS2 => ?_)
  have hlen : (zwd ZC T (adr a g) sgC0 lg0).length = 67 := by simp [zwd, ZC]
  have hwx : WS ZC D vwCl T (adr a g) sgC0 lg0 (AL s) s.heap H2 locs := by
    have hg : ∀ (k : Nat) (q : Nat × va_E), (zwd ZC T (adr a g) sgC0 lg0)[k]? = some q → (zwd ZC T (adr a g) sgC0 lg0 ++ [(q1, .inr (12, [.null, .null, .int 0, .null, .int 0, .null, .null, .int 0, .int 0, .int 0, .null, .null, .null, .null, .null, .null, .null, .int 0]))])[k]? = some q := fun k q hq => by
      rw [List.getElem?_append_left ((List.getElem?_eq_some_iff.mp hq).1)]; exact hq
    exact ⟨fun k q hq => hPa k q (hg k q hq), ⟨fun i j p q hp hq e => hDa.1 i j p q (hg i p hp) (hg j q hq) e, fun k q hq => hDa.2 k q (hg k q hq)⟩, hS2⟩
  have hlast : (zwd ZC T (adr a g) sgC0 lg0 ++ [(q1, .inr (12, [.null, .null, .int 0, .null, .int 0, .null, .null, .int 0, .int 0, .int 0, .null, .null, .null, .null, .null, .null, .null, .int 0]))])[67]? = some (q1, .inr (12, [.null, .null, .int 0, .null, .int 0, .null, .null, .int 0, .int 0, .int 0, .null, .null, .null, .null, .null, .null, .null, .int 0])) := by
    rw [List.getElem?_append_right (by rw [hlen]; decide), hlen]; rfl
  have hdis0 : ∀ i, i < ZC.1 → adr a g i ≠ q1 := by
    intro i hi e
    have h1 : (zwd ZC T (adr a g) sgC0 lg0 ++ [(q1, .inr (12, [.null, .null, .int 0, .null, .int 0, .null, .null, .int 0, .int 0, .int 0, .null, .null, .null, .null, .null, .null, .null, .int 0]))])[i]? = some (adr a g i, zce ZC T (adr a g) sgC0 lg0 i) := by
      rw [List.getElem?_append_left (by rw [hlen]; exact hi)]; exact zwd_get hi
    have := hDa.1 i 67 _ _ h1 hlast e
    have hi : i < 67 := hi
    omega
  have hP : va_P D vwCl [(q1, .inr (12, [.null, .null, .int 0, .null, .int 0, .null, .null, .int 0, .int 0, .int 0, .null, .null, .null, .null, .null, .null, .null, .int 0]))] H2 := fun k q hq => by
    have hk : k < 1 := (List.getElem?_eq_some_iff.mp hq).1
    rw [show k = 0 by omega] at hq
    cases hq
    exact hPa 67 _ hlast
  have hD : va_D (AL s) [(q1, .inr (12, [.null, .null, .int 0, .null, .int 0, .null, .null, .int 0, .int 0, .int 0, .null, .null, .null, .null, .null, .null, .null, .int 0]))] := ⟨fun i j p q hp hq _ => by
    have h1 : i < 1 := (List.getElem?_eq_some_iff.mp hp).1
    have h2 : j < 1 := (List.getElem?_eq_some_iff.mp hq).1
    omega, fun k q hq => by
    have hk : k < 1 := (List.getElem?_eq_some_iff.mp hq).1
    rw [show k = 0 by omega] at hq
    cases hq
    exact hDa.2 67 _ hlast⟩
  have hS := hS2
  clear hPa hDa
  refine W.widen (k := 68) (n := 4594) (by decide) (by decide) ?_
  refine lv_dup hx hb dL_law_11 rfl ?_
  have hFc : ∀ q, va_A [(q1, .inr (12, [.null, .null, .int 0, .null, .int 0, .null, .null, .int 0, .int 0, .int 0, .null, .null, .null, .null, .null, .null, .null, .int 0]))] H2.size q → AL s q := by
    intro q h
    rcases h with ⟨k, x, h⟩ | h
    · exact hD.2 k (q, x) h
    · exact Nat.le_trans hS.1 h
  refine va_callv (va_runI (As := []) (rest := [.ref q1]) ⟨hx, hb, hml, hown, hts⟩ (mX12_init l D T q1 H2.size) (cwI 0 hts GL_wsX12_init rfl rfl rfl (hts _ kL_ini12) (hts _ kL_m12) (hts _ kL_im12) rfl (by decide +kernel) ⟨Nat.le_of_ble_eq_true rfl, Nat.le_of_ble_eq_true rfl⟩) ⟨fun a U g mk q => by obtain ⟨q0, q1, qP, qK, qD, qN, qO⟩ := q; exact ⟨q0, q1, qP, va_K.moved (u := U) (U := U.calling g mk a) (Vm.Alike.refl U.vm) qK, qD, fun w hw => NestW.same (s := U) (U := U.calling g mk a) (nwL_nest w hw) rfl (qN w hw), qO⟩, fun U hU hW => ⟨rfl, by rw [hU], by rw [hU]; exact hP, va_K.moved hW.alike hKM, hD.weaken (fun _ _ _ _ => trivial), fun w hw => (nwL_nest w hw).warm hW (hnw w hw), hao.moved hW.alike⟩⟩ rfl rfl hl.1 rfl (lv_room (Nat.le_of_ble_eq_true rfl)) dL_law_12 ⟨Nat.le_of_ble_eq_true rfl, Nat.le_of_ble_eq_true rfl⟩) hS (fun q _ h => hFc q h) hFc (fun am t H3 locs3 ht hvm hwm hB hz1 hk1 hS3 => ?_)
  obtain ⟨hP3, hK3, hD3⟩ := hB
  rw [ht] at hP3
  have hwM : WS ZM D vwCl T am sgM0 lg0 (AL s) s.heap H3 locs3 := ⟨hP3, hD3.weaken (fun _ q _ h => hFc q.1 h), hS3⟩
  have hwX : WS ZC D vwCl T (adr a g) sgC0 lg0 (AL s) s.heap H3 locs3 := by
    refine ⟨hwx.1.kept (fun k q hq => ?_), hwx.2.1, hS3⟩
    have hlt := (hwx.1 k q hq).lt
    obtain ⟨hk, he⟩ := zwd_in (q := q.1) (x := q.2) hq
    refine hk1 q.1 hlt (fun hA => ?_)
    rcases hA with ⟨k', x, hx'⟩ | hx'
    · have hk' : k' < 1 := (List.getElem?_eq_some_iff.mp hx').1
      rw [show k' = 0 by omega] at hx'
      have : q1 = q.1 := (congrArg Prod.fst (Option.some.inj hx'))
      exact hdis0 k hk (he.symm.trans this.symm)
    · omega
  have hdis : ∀ i j, i < ZC.1 → j < ZM.1 → adr a g i ≠ am j := by
    intro i j hi hj e
    have hlt := (hwx.1 i _ (zwd_get hi)).lt
    rcases hD3.2 j _ (zwd_get hj) with ⟨k', x, hx'⟩ | hx'
    · have hk' : k' < 1 := (List.getElem?_eq_some_iff.mp hx').1
      rw [show k' = 0 by omega] at hx'
      have : q1 = am j := (congrArg Prod.fst (Option.some.inj hx'))
      exact hdis0 i hi (e.trans this.symm)
    · have hx' : H2.size ≤ am j := hx'
      have hlt : adr a g i < H2.size := hlt
      omega
  refine W.widen (k := 80) (n := 115267) (by decide) (by decide) ?_
  have hwm : am 0 = q1 := hwm
  refine lv_astore_n (lv' := [(2, .ref (am 0)), (1, .ref (adr a g 0)), (0, .ref b)]) hx hb dL_law_15 rfl hl (by decide) (by rw [hwm]; rfl) (fun ls hl => ?_)
  refine lv_iconst (v := 0) hx hb dL_law_16 (by decide) ?_
  refine lv_istore_n (lv' := [(3, .int 0), (2, .ref (am 0)), (1, .ref (adr a g 0)), (0, .ref b)]) hx hb dL_law_17 rfl hl (by decide) rfl (fun ls hl => ?_)
  exact law_loop CX CM hX hbl hL Rel step 513 0 g sgC0 sgM0 lg0 H3 locs3 ls 0 (by omega) (by omega) nI_0.symm h0 ⟨hwX, hwM, hdis⟩ (lv_sub hl [3, 2, 1, 0] rfl)
