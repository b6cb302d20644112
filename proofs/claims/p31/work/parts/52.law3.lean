def StepOK (o a1 a2 a3 a4 : Int32) (R' : Sg → Sg → Lg → Prop) (sx sm : Sg) (lm : Lg) : Prop :=
  (o &&& 31 = 0 → OpL false (fX11_hen a1 a2 sx) (fX12_hen a1 a2 sm lm) R') ∧
  (o &&& 31 = 1 → OpL false (fX11_ask a1 a2 sx) (fX12_ask a1 a2 sm lm) R') ∧
  (o &&& 31 = 2 → OpL false (fX11_take a1 a2 sx) (fX12_take a1 a2 sm lm) R') ∧
  (o &&& 31 = 3 → OpL false (fX11_pen a1 a2 sx) (fX12_pen a1 a2 sm lm) R') ∧
  (o &&& 31 = 4 → OpL false (fX11_peck a1 a2 ((a3.toInt64 <<< ((32 : Int32).toInt64 &&& 63)) ||| (a4.toInt64 &&& (4294967295 : Int64))) sx) (fX12_peck a1 a2 ((a3.toInt64 <<< ((32 : Int32).toInt64 &&& 63)) ||| (a4.toInt64 &&& (4294967295 : Int64))) sm lm) R') ∧
  (o &&& 31 = 5 → OpL false (fX11_leave a1 sx) (fX12_leave a1 sm lm) R') ∧
  (o &&& 31 = 6 → OpL false (fX11_about a1 a2 sx) (fX12_about a1 a2 sm lm) R') ∧
  (o &&& 31 = 7 → OpL false (fX11_isOf a1 a2 sx) (fX12_isOf a1 a2 sm lm) R') ∧
  (o &&& 31 = 8 → OpL false (fX11_pecks a1 a2 sx) (fX12_pecks a1 a2 sm lm) R') ∧
  (o &&& 31 = 9 → OpL false (fX11_undo  sx) (fX12_undo  sm lm) R') ∧
  (o &&& 31 = 10 → OpL false (fX11_least  sx) (fX12_least  sm lm) R') ∧
  (o &&& 31 = 11 → OpL false (fX11_many  sx) (fX12_many  sm lm) R') ∧
  (o &&& 31 = 12 → OpL false (fX11_best ((a1.toInt64 <<< ((32 : Int32).toInt64 &&& 63)) ||| (a2.toInt64 &&& (4294967295 : Int64))) sx) (fX12_best ((a1.toInt64 <<< ((32 : Int32).toInt64 &&& 63)) ||| (a2.toInt64 &&& (4294967295 : Int64))) sm lm) R') ∧
  (o &&& 31 = 13 → OpL false (fX11_number  sx) (fX12_number  sm lm) R') ∧
  (o &&& 31 = 14 → OpL false (fX11_sure a1 a2 sx) (fX12_sure a1 a2 sm lm) R') ∧
  (o &&& 31 = 15 → OpL false (fX11_why  sx) (fX12_why  sm lm) R') ∧
  (o &&& 31 = 16 → OpL false (fX11_begin  sx) (fX12_begin  sm lm) R') ∧
  (o &&& 31 = 17 → OpL false (fX11_stand a1 sx) (fX12_stand a1 sm lm) R') ∧
  (o &&& 31 = 18 → OpL false (fX11_order a1 sx) (fX12_order a1 sm lm) R') ∧
  (o &&& 31 = 19 → OpL false (fX11_move a1 a2 sx) (fX12_move a1 a2 sm lm) R') ∧
  (o &&& 31 = 20 → OpL false (fX11_weight  sx) (fX12_weight  sm lm) R') ∧
  (o &&& 31 = 21 → OpL false (fX11_fault  sx) (fX12_fault  sm lm) R') ∧
  (o &&& 31 = 22 → OpL false (fX11_better a1 sx) (fX12_better a1 sm lm) R') ∧
  (o &&& 31 = 23 → OpL false (fX11_turn  sx) (fX12_turn  sm lm) R') ∧
  (o &&& 31 = 24 → OpL false (fX11_groups  sx) (fX12_groups  sm lm) R') ∧
  (o &&& 31 = 25 → OpL false (fX11_groupOf a1 sx) (fX12_groupOf a1 sm lm) R') ∧
  (o &&& 31 = 26 → OpL false (fX11_loose  sx) (fX12_loose  sm lm) R') ∧
  (o &&& 31 = 27 → OpL false (fX11_pack  sx) (fX12_pack  sm lm) R') ∧
  (o &&& 31 = 28 → OpL false (fX11_ring a1 a2 sx) (fX12_ring a1 a2 sm lm) R') ∧
  (o &&& 31 = 29 → OpL true (fX11_count a1 sx) (fX12_count a1 sm lm) R') ∧
  ((∀ k : Nat, k < 30 → ¬ o &&& 31 = nI k) → R' sx sm lm)
section LAW3
variable {p : Program} {l : Launch} {e : Env} {s : State} {m : MethodId} {below : List Frame} {meth : Method} {c : Code} {D : va_G} {T : Nat → ClassId} {a am : Nat → Nat} {b L : Nat} {xs : Nat → Int32}
set_option maxHeartbeats 4000000 in
set_option maxRecDepth 100000 in
/-- the law's loop: Rel n holds after n calls -/
theorem law_loop (CX : Cx p s m #[Value.ref b] meth c code 4 RL lw_tbl ret D vwCl (tysC T) (AL s) true nwL) (CM : Cx p s m #[Value.ref b] meth c code 4 RL lw_tbl ret D vwCl (tysM T) (AL s) false []) (hX : va_X b L xs s s.heap) (hbl : b < s.heap.size) (hL : L ≤ 2560) (Rel : Nat → Sg → Sg → Lg → Prop)
    (step : ∀ (cn : Nat) (o a1 a2 a3 a4 : Int32) (sx sm : Sg) (lm : Lg), 5 * cn + 5 ≤ L → Rel cn sx sm lm → StepOK o a1 a2 a3 a4 (Rel (cn + 1)) sx sm lm) :
    ∀ (n cn : Nat) (g : Nat → Nat) (sx sm : Sg) (lm : Lg) (H : Heap) (locs : List Loc) (ls : Array Slot) (x3 : Int32), 512 < cn + n → 5 * cn ≤ L + 4 → x3 = nI (5 * cn) → Rel cn sx sm lm → LW D T a g am sx sm lm s H locs → lv_has ls 4 [(0, .ref b), (1, .ref (adr a g 0)), (2, .ref (am 0)), (3, .int x3)] → W p l e room_1 s m #[Value.ref b] below meth c H locs (80 + 3 * cn) (115267 + 12288 * cn) (lw_Z below #[Value.ref b] s) (F0 m 18 ls []) := by
  obtain ⟨hx, hb, hml, hown, hts⟩ := id CX.1
  have hbA : ¬ AL s b := Nat.not_le.mpr hbl
  intro n
  induction n with
  | zero => intro cn g sx sm lm H locs ls x3 h1 h2; omega
  | succ n ih =>
    intro cn g sx sm lm H locs ls x3 h1 h2 e3 hR hw hl
    refine lv_iload_n hx hb dL_law_18 rfl (lv_at hl 3 rfl) ?_
    refine lv_aload_n hx hb dL_law_19 rfl (lv_at hl 0 rfl) ?_
    refine va_slen hx hb hX hbl hbA hw.1.2.2 dL_law_20 ?_
    refine lv_iconst (v := (5 : Int32)) hx hb dL_law_21 (by decide) ?_
    refine lv_isub hx hb dL_law_22 ?_
    refine lv_icmp_gt (tgt := 925) hx hb dL_law_23 (by decide) (fun c1 => ?_) (fun c1 => ?_)
    · refine lv_iconst (v := (1 : Int32)) hx hb dL_law_925 (by decide) ?_
      refine va_forget (fun q hq => hw.1.2.2.2.2 q hq) ?_
      refine W.widen (k := 600000) (n := 7302250) (by omega) (by omega) ?_
      exact lw_ret hx hb CX.2.1 CX.2.2.1 dL_law_926
    · rw [e3] at c1
      have hin : 5 * cn + 5 ≤ L := law_in (by omega) (by omega) c1
      have hcn : cn ≤ 511 := by omega
      have hix : ∀ k : Nat, k < 5 → vp_in (x3 + nI k) L := fun k hk => by rw [e3]; exact law_ix (by omega) hin hk
      have hi0 : vp_in x3 L := by rw [e3]; exact vp_in_nI (by omega) (by omega)
      refine lv_aload_n hx hb dL_law_26 rfl (lv_at hl 0 rfl) ?_
      refine lv_iload_n hx hb dL_law_27 rfl (lv_at hl 3 rfl) ?_
      refine va_sld hx hb hX hbl hbA hw.1.2.2 hi0 dL_law_28 ?_
      refine lv_bipush (v := (31 : Int32)) hx hb dL_law_29 (by decide) ?_
      refine lv_iand hx hb dL_law_31 ?_
      have hst := step cn (xs x3.toNatClampNeg) (xs (x3 + 1).toNatClampNeg) (xs (x3 + 2).toNatClampNeg) (xs (x3 + 3).toNatClampNeg) (xs (x3 + 4).toNatClampNeg) sx sm lm hin hR
      have hnext : ∀ (g' : Nat → Nat) (sx' sm' : Sg) (lm' : Lg) (H' : Heap) (locs' : List Loc), Rel (cn + 1) sx' sm' lm' → LW D T a g' am sx' sm' lm' s H' locs' → lv_has ls 4 [(0, .ref b), (1, .ref (adr a g' 0)), (2, .ref (am 0)), (3, .int x3)] → W p l e room_1 s m #[Value.ref b] below meth c H' locs' (80 + 3 * (cn + 1)) (115267 + 12288 * (cn + 1)) (lw_Z below #[Value.ref b] s) (F0 m 919 ls []) := by
        intro g' sx' sm' lm' H' locs' hR' hw' hl'
        obtain ⟨x4, e4⟩ : ∃ z : Int32, z = x3 + 5 := ⟨_, rfl⟩
        refine lv_iinc (v := x4) (lv' := [(3, .int x4), (0, .ref b), (1, .ref (adr a g' 0)), (2, .ref (am 0))]) hx hb dL_law_919 hl' (k := 3) rfl (by rw [e4]; rfl) (by decide) rfl (fun ls hl => ?_)
        refine lv_goto (tgt := 18) hx hb dL_law_922 (by decide) ?_
        exact ih (cn + 1) g' sx' sm' lm' H' locs' ls x4 (by omega) (by omega) (by rw [e4, e3, show (5 : Int32) = nI 5 from rfl, nI_add]; rfl) hR' hw' (lv_sub hl [1, 2, 3, 0] rfl)
      obtain ⟨s0, s1, s2, s3, s4, s5, s6, s7, s8, s9, s10, s11, s12, s13, s14, s15, s16, s17, s18, s19, s20, s21, s22, s23, s24, s25, s26, s27, s28, s29, s30⟩ := hst
      generalize hv : xs x3.toNatClampNeg &&& 31 = v at *
      by_cases c_0 : v = 0
      · refine lv_tableIn (tgt := 168) (off := 136) hx hb dL_law_32 (by rw [c_0]; decide) (by rw [c_0]; decide) (by rw [c_0]; rfl) (by decide) ?_
        exact law_c0 CX CM hX hbl hcn hix (s0 c_0) hw hl hnext
      by_cases c_1 : v = 1
      · refine lv_tableIn (tgt := 201) (off := 169) hx hb dL_law_32 (by rw [c_1]; decide) (by rw [c_1]; decide) (by rw [c_1]; rfl) (by decide) ?_
        exact law_c1 CX CM hX hbl hcn hix (s1 c_1) hw hl hnext
      by_cases c_2 : v = 2
      · refine lv_tableIn (tgt := 234) (off := 202) hx hb dL_law_32 (by rw [c_2]; decide) (by rw [c_2]; decide) (by rw [c_2]; rfl) (by decide) ?_
        exact law_c2 CX CM hX hbl hcn hix (s2 c_2) hw hl hnext
      by_cases c_3 : v = 3
      · refine lv_tableIn (tgt := 267) (off := 235) hx hb dL_law_32 (by rw [c_3]; decide) (by rw [c_3]; decide) (by rw [c_3]; rfl) (by decide) ?_
        exact law_c3 CX CM hX hbl hcn hix (s3 c_3) hw hl hnext
      by_cases c_4 : v = 4
      · refine lv_tableIn (tgt := 300) (off := 268) hx hb dL_law_32 (by rw [c_4]; decide) (by rw [c_4]; decide) (by rw [c_4]; rfl) (by decide) ?_
        exact law_c4 CX CM hX hbl hcn hix (s4 c_4) hw hl hnext
      by_cases c_5 : v = 5
      · refine lv_tableIn (tgt := 373) (off := 341) hx hb dL_law_32 (by rw [c_5]; decide) (by rw [c_5]; decide) (by rw [c_5]; rfl) (by decide) ?_
        exact law_c5 CX CM hX hbl hcn hix (s5 c_5) hw hl hnext
      by_cases c_6 : v = 6
      · refine lv_tableIn (tgt := 396) (off := 364) hx hb dL_law_32 (by rw [c_6]; decide) (by rw [c_6]; decide) (by rw [c_6]; rfl) (by decide) ?_
        exact law_c6 CX CM hX hbl hcn hix (s6 c_6) hw hl hnext
      by_cases c_7 : v = 7
      · refine lv_tableIn (tgt := 429) (off := 397) hx hb dL_law_32 (by rw [c_7]; decide) (by rw [c_7]; decide) (by rw [c_7]; rfl) (by decide) ?_
        exact law_c7 CX CM hX hbl hcn hix (s7 c_7) hw hl hnext
      by_cases c_8 : v = 8
      · refine lv_tableIn (tgt := 462) (off := 430) hx hb dL_law_32 (by rw [c_8]; decide) (by rw [c_8]; decide) (by rw [c_8]; rfl) (by decide) ?_
        exact law_c8 CX CM hX hbl hcn hix (s8 c_8) hw hl hnext
      by_cases c_9 : v = 9
      · refine lv_tableIn (tgt := 495) (off := 463) hx hb dL_law_32 (by rw [c_9]; decide) (by rw [c_9]; decide) (by rw [c_9]; rfl) (by decide) ?_
        exact law_c9 CX CM hX hbl hcn hix (s9 c_9) hw hl hnext
      by_cases c_10 : v = 10
      · refine lv_tableIn (tgt := 508) (off := 476) hx hb dL_law_32 (by rw [c_10]; decide) (by rw [c_10]; decide) (by rw [c_10]; rfl) (by decide) ?_
        exact law_c10 CX CM hX hbl hcn hix (s10 c_10) hw hl hnext
      by_cases c_11 : v = 11
      · refine lv_tableIn (tgt := 521) (off := 489) hx hb dL_law_32 (by rw [c_11]; decide) (by rw [c_11]; decide) (by rw [c_11]; rfl) (by decide) ?_
        exact law_c11 CX CM hX hbl hcn hix (s11 c_11) hw hl hnext
      by_cases c_12 : v = 12
      · refine lv_tableIn (tgt := 534) (off := 502) hx hb dL_law_32 (by rw [c_12]; decide) (by rw [c_12]; decide) (by rw [c_12]; rfl) (by decide) ?_
        exact law_c12 CX CM hX hbl hcn hix (s12 c_12) hw hl hnext
      by_cases c_13 : v = 13
      · refine lv_tableIn (tgt := 587) (off := 555) hx hb dL_law_32 (by rw [c_13]; decide) (by rw [c_13]; decide) (by rw [c_13]; rfl) (by decide) ?_
        exact law_c13 CX CM hX hbl hcn hix (s13 c_13) hw hl hnext
      by_cases c_14 : v = 14
      · refine lv_tableIn (tgt := 600) (off := 568) hx hb dL_law_32 (by rw [c_14]; decide) (by rw [c_14]; decide) (by rw [c_14]; rfl) (by decide) ?_
        exact law_c14 CX CM hX hbl hcn hix (s14 c_14) hw hl hnext
      by_cases c_15 : v = 15
      · refine lv_tableIn (tgt := 633) (off := 601) hx hb dL_law_32 (by rw [c_15]; decide) (by rw [c_15]; decide) (by rw [c_15]; rfl) (by decide) ?_
        exact law_c15 CX CM hX hbl hcn hix (s15 c_15) hw hl hnext
      by_cases c_16 : v = 16
      · refine lv_tableIn (tgt := 646) (off := 614) hx hb dL_law_32 (by rw [c_16]; decide) (by rw [c_16]; decide) (by rw [c_16]; rfl) (by decide) ?_
        exact law_c16 CX CM hX hbl hcn hix (s16 c_16) hw hl hnext
      by_cases c_17 : v = 17
      · refine lv_tableIn (tgt := 659) (off := 627) hx hb dL_law_32 (by rw [c_17]; decide) (by rw [c_17]; decide) (by rw [c_17]; rfl) (by decide) ?_
        exact law_c17 CX CM hX hbl hcn hix (s17 c_17) hw hl hnext
      by_cases c_18 : v = 18
      · refine lv_tableIn (tgt := 682) (off := 650) hx hb dL_law_32 (by rw [c_18]; decide) (by rw [c_18]; decide) (by rw [c_18]; rfl) (by decide) ?_
        exact law_c18 CX CM hX hbl hcn hix (s18 c_18) hw hl hnext
      by_cases c_19 : v = 19
      · refine lv_tableIn (tgt := 705) (off := 673) hx hb dL_law_32 (by rw [c_19]; decide) (by rw [c_19]; decide) (by rw [c_19]; rfl) (by decide) ?_
        exact law_c19 CX CM hX hbl hcn hix (s19 c_19) hw hl hnext
      by_cases c_20 : v = 20
      · refine lv_tableIn (tgt := 738) (off := 706) hx hb dL_law_32 (by rw [c_20]; decide) (by rw [c_20]; decide) (by rw [c_20]; rfl) (by decide) ?_
        exact law_c20 CX CM hX hbl hcn hix (s20 c_20) hw hl hnext
      by_cases c_21 : v = 21
      · refine lv_tableIn (tgt := 751) (off := 719) hx hb dL_law_32 (by rw [c_21]; decide) (by rw [c_21]; decide) (by rw [c_21]; rfl) (by decide) ?_
        exact law_c21 CX CM hX hbl hcn hix (s21 c_21) hw hl hnext
      by_cases c_22 : v = 22
      · refine lv_tableIn (tgt := 764) (off := 732) hx hb dL_law_32 (by rw [c_22]; decide) (by rw [c_22]; decide) (by rw [c_22]; rfl) (by decide) ?_
        exact law_c22 CX CM hX hbl hcn hix (s22 c_22) hw hl hnext
      by_cases c_23 : v = 23
      · refine lv_tableIn (tgt := 787) (off := 755) hx hb dL_law_32 (by rw [c_23]; decide) (by rw [c_23]; decide) (by rw [c_23]; rfl) (by decide) ?_
        exact law_c23 CX CM hX hbl hcn hix (s23 c_23) hw hl hnext
      by_cases c_24 : v = 24
      · refine lv_tableIn (tgt := 800) (off := 768) hx hb dL_law_32 (by rw [c_24]; decide) (by rw [c_24]; decide) (by rw [c_24]; rfl) (by decide) ?_
        exact law_c24 CX CM hX hbl hcn hix (s24 c_24) hw hl hnext
      by_cases c_25 : v = 25
      · refine lv_tableIn (tgt := 813) (off := 781) hx hb dL_law_32 (by rw [c_25]; decide) (by rw [c_25]; decide) (by rw [c_25]; rfl) (by decide) ?_
        exact law_c25 CX CM hX hbl hcn hix (s25 c_25) hw hl hnext
      by_cases c_26 : v = 26
      · refine lv_tableIn (tgt := 836) (off := 804) hx hb dL_law_32 (by rw [c_26]; decide) (by rw [c_26]; decide) (by rw [c_26]; rfl) (by decide) ?_
        exact law_c26 CX CM hX hbl hcn hix (s26 c_26) hw hl hnext
      by_cases c_27 : v = 27
      · refine lv_tableIn (tgt := 849) (off := 817) hx hb dL_law_32 (by rw [c_27]; decide) (by rw [c_27]; decide) (by rw [c_27]; rfl) (by decide) ?_
        exact law_c27 CX CM hX hbl hcn hix (s27 c_27) hw hl hnext
      by_cases c_28 : v = 28
      · refine lv_tableIn (tgt := 862) (off := 830) hx hb dL_law_32 (by rw [c_28]; decide) (by rw [c_28]; decide) (by rw [c_28]; rfl) (by decide) ?_
        exact law_c28 CX CM hX hbl hcn hix (s28 c_28) hw hl hnext
      by_cases c_29 : v = 29
      · refine lv_tableIn (tgt := 895) (off := 863) hx hb dL_law_32 (by rw [c_29]; decide) (by rw [c_29]; decide) (by rw [c_29]; rfl) (by decide) ?_
        exact law_c29 CX CM hX hbl hcn hix (s29 c_29) hw hl hnext
      refine lv_tableOut (tgt := 919) hx hb dL_law_32 (by have q0 := lv_neT c_0 (a := 0) (by decide); have q1 := lv_neT c_1 (a := 1) (by decide); have q2 := lv_neT c_2 (a := 2) (by decide); have q3 := lv_neT c_3 (a := 3) (by decide); have q4 := lv_neT c_4 (a := 4) (by decide); have q5 := lv_neT c_5 (a := 5) (by decide); have q6 := lv_neT c_6 (a := 6) (by decide); have q7 := lv_neT c_7 (a := 7) (by decide); have q8 := lv_neT c_8 (a := 8) (by decide); have q9 := lv_neT c_9 (a := 9) (by decide); have q10 := lv_neT c_10 (a := 10) (by decide); have q11 := lv_neT c_11 (a := 11) (by decide); have q12 := lv_neT c_12 (a := 12) (by decide); have q13 := lv_neT c_13 (a := 13) (by decide); have q14 := lv_neT c_14 (a := 14) (by decide); have q15 := lv_neT c_15 (a := 15) (by decide); have q16 := lv_neT c_16 (a := 16) (by decide); have q17 := lv_neT c_17 (a := 17) (by decide); have q18 := lv_neT c_18 (a := 18) (by decide); have q19 := lv_neT c_19 (a := 19) (by decide); have q20 := lv_neT c_20 (a := 20) (by decide); have q21 := lv_neT c_21 (a := 21) (by decide); have q22 := lv_neT c_22 (a := 22) (by decide); have q23 := lv_neT c_23 (a := 23) (by decide); have q24 := lv_neT c_24 (a := 24) (by decide); have q25 := lv_neT c_25 (a := 25) (by decide); have q26 := lv_neT c_26 (a := 26) (by decide); have q27 := lv_neT c_27 (a := 27) (by decide); have q28 := lv_neT c_28 (a := 28) (by decide); have q29 := lv_neT c_29 (a := 29) (by decide); omega) (by decide) ?_
      refine W.widen (k := 80 + 3 * (cn + 1)) (n := 115267 + 12288 * (cn + 1)) (by omega) (by omega) ?_
      refine hnext g sx sm lm H locs (s30 (fun k hk hk2 => ?_)) hw hl
      rcases (show k = 0 ∨ k = 1 ∨ k = 2 ∨ k = 3 ∨ k = 4 ∨ k = 5 ∨ k = 6 ∨ k = 7 ∨ k = 8 ∨ k = 9 ∨ k = 10 ∨ k = 11 ∨ k = 12 ∨ k = 13 ∨ k = 14 ∨ k = 15 ∨ k = 16 ∨ k = 17 ∨ k = 18 ∨ k = 19 ∨ k = 20 ∨ k = 21 ∨ k = 22 ∨ k = 23 ∨ k = 24 ∨ k = 25 ∨ k = 26 ∨ k = 27 ∨ k = 28 ∨ k = 29 by omega) with rfl | rfl | rfl | rfl | rfl | rfl | rfl | rfl | rfl | rfl | rfl | rfl | rfl | rfl | rfl | rfl | rfl | rfl | rfl | rfl | rfl | rfl | rfl | rfl | rfl | rfl | rfl | rfl | rfl | rfl
      · exact c_0 hk2
      · exact c_1 hk2
      · exact c_2 hk2
      · exact c_3 hk2
      · exact c_4 hk2
      · exact c_5 hk2
      · exact c_6 hk2
      · exact c_7 hk2
      · exact c_8 hk2
      · exact c_9 hk2
      · exact c_10 hk2
      · exact c_11 hk2
      · exact c_12 hk2
      · exact c_13 hk2
      · exact c_14 hk2
      · exact c_15 hk2
      · exact c_16 hk2
      · exact c_17 hk2
      · exact c_18 hk2
      · exact c_19 hk2
      · exact c_20 hk2
      · exact c_21 hk2
      · exact c_22 hk2
      · exact c_23 hk2
      · exact c_24 hk2
      · exact c_25 hk2
      · exact c_26 hk2
      · exact c_27 hk2
      · exact c_28 hk2
      · exact c_29 hk2
end LAW3
