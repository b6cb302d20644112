theorem sg0 {k : Nat} (h : k ≠ 3 ∧ k ≠ 4 ∧ k ≠ 7 ∧ k ≠ 10 ∧ k ≠ 99) (j : Nat) : sgC0 k j = 0 := by
  unfold sgC0
  split <;> first | rfl | omega
theorem tb0 {k j : Nat} (h : k ≠ 99) : (tbC k j).1 ≤ 0 ∧ 0 ≤ (tbC k j).2 := by
  unfold tbC
  by_cases c0 : k = 1
  · rw [if_pos c0]
    repeat' split
    all_goals decide
  rw [if_neg c0]
  by_cases c1 : k = 2
  · rw [if_pos c1]
    repeat' split
    all_goals decide
  rw [if_neg c1]
  by_cases c2 : k = 3
  · rw [if_pos c2]
    repeat' split
    all_goals decide
  rw [if_neg c2]
  by_cases c3 : k = 5
  · rw [if_pos c3]
    repeat' split
    all_goals decide
  rw [if_neg c3]
  by_cases c4 : k = 8
  · rw [if_pos c4]
    repeat' split
    all_goals decide
  rw [if_neg c4]
  by_cases c5 : k = 11
  · rw [if_pos c5]
    repeat' split
    all_goals decide
  rw [if_neg c5]
  by_cases c6 : k = 12
  · rw [if_pos c6]
    repeat' split
    all_goals decide
  rw [if_neg c6]
  by_cases c7 : k = 14
  · rw [if_pos c7]
    repeat' split
    all_goals decide
  rw [if_neg c7]
  by_cases c8 : k = 15
  · rw [if_pos c8]
    repeat' split
    all_goals decide
  rw [if_neg c8]
  by_cases c9 : k = 17
  · rw [if_pos c9]
    repeat' split
    all_goals decide
  rw [if_neg c9]
  by_cases c10 : k = 18
  · rw [if_pos c10]
    repeat' split
    all_goals decide
  rw [if_neg c10]
  by_cases c11 : k = 19
  · rw [if_pos c11]
    repeat' split
    all_goals decide
  rw [if_neg c11]
  by_cases c12 : k = 20
  · rw [if_pos c12]
    repeat' split
    all_goals decide
  rw [if_neg c12]
  by_cases c13 : k = 21
  · rw [if_pos c13]
    repeat' split
    all_goals decide
  rw [if_neg c13]
  by_cases c14 : k = 22
  · rw [if_pos c14]
    repeat' split
    all_goals decide
  rw [if_neg c14]
  by_cases c15 : k = 23
  · rw [if_pos c15]
    repeat' split
    all_goals decide
  rw [if_neg c15]
  by_cases c16 : k = 24
  · rw [if_pos c16]
    repeat' split
    all_goals decide
  rw [if_neg c16]
  by_cases c17 : k = 27
  · rw [if_pos c17]
    repeat' split
    all_goals decide
  rw [if_neg c17]
  by_cases c18 : k = 28
  · rw [if_pos c18]
    repeat' split
    all_goals decide
  rw [if_neg c18]
  by_cases c19 : k = 29
  · rw [if_pos c19]
    repeat' split
    all_goals decide
  rw [if_neg c19]
  by_cases c20 : k = 30
  · rw [if_pos c20]
    repeat' split
    all_goals decide
  rw [if_neg c20]
  by_cases c21 : k = 31
  · rw [if_pos c21]
    repeat' split
    all_goals decide
  rw [if_neg c21]
  by_cases c22 : k = 32
  · rw [if_pos c22]
    repeat' split
    all_goals decide
  rw [if_neg c22]
  by_cases c23 : k = 33
  · rw [if_pos c23]
    repeat' split
    all_goals decide
  rw [if_neg c23]
  by_cases c24 : k = 36
  · rw [if_pos c24]
    repeat' split
    all_goals decide
  rw [if_neg c24]
  by_cases c25 : k = 38
  · rw [if_pos c25]
    repeat' split
    all_goals decide
  rw [if_neg c25]
  by_cases c26 : k = 39
  · rw [if_pos c26]
    repeat' split
    all_goals decide
  rw [if_neg c26]
  by_cases c27 : k = 41
  · rw [if_pos c27]
    repeat' split
    all_goals decide
  rw [if_neg c27]
  by_cases c28 : k = 42
  · rw [if_pos c28]
    repeat' split
    all_goals decide
  rw [if_neg c28]
  by_cases c29 : k = 43
  · rw [if_pos c29]
    repeat' split
    all_goals decide
  rw [if_neg c29]
  by_cases c30 : k = 44
  · rw [if_pos c30]
    repeat' split
    all_goals decide
  rw [if_neg c30]
  by_cases c31 : k = 45
  · rw [if_pos c31]
    repeat' split
    all_goals decide
  rw [if_neg c31]
  by_cases c32 : k = 46
  · rw [if_pos c32]
    repeat' split
    all_goals decide
  rw [if_neg c32]
  by_cases c33 : 47 ≤ k ∧ k ≤ 54
  · rw [if_pos c33]
    repeat' split
    all_goals decide
  rw [if_neg c33]
  by_cases c34 : 55 ≤ k ∧ k ≤ 62
  · rw [if_pos c34]
    repeat' split
    all_goals decide
  rw [if_neg c34]
  by_cases c35 : k = 99
  · exact absurd c35 h
  rw [if_neg c35]
  decide
theorem tbm0 (k j : Nat) : (tbM k j).1 ≤ 0 ∧ 0 ≤ (tbM k j).2 := by
  unfold tbM
  by_cases c0 : k = 0
  · rw [if_pos c0]
    repeat' split
    all_goals decide
  rw [if_neg c0]
  by_cases c1 : k = 1
  · rw [if_pos c1]
    repeat' split
    all_goals decide
  rw [if_neg c1]
  by_cases c2 : k = 3
  · rw [if_pos c2]
    repeat' split
    all_goals decide
  rw [if_neg c2]
  by_cases c3 : k = 6
  · rw [if_pos c3]
    repeat' split
    all_goals decide
  rw [if_neg c3]
  by_cases c4 : k = 7
  · rw [if_pos c4]
    repeat' split
    all_goals decide
  rw [if_neg c4]
  by_cases c5 : k = 8
  · rw [if_pos c5]
    repeat' split
    all_goals decide
  rw [if_neg c5]
  by_cases c6 : k = 11
  · rw [if_pos c6]
    repeat' split
    all_goals decide
  rw [if_neg c6]
  decide
theorem sv0 : SV (sgM0 1) := ⟨by decide, by decide, fun _ _ => rfl, fun _ _ _ => (show 0 ≤ (0 : Int32).toInt ∧ (0 : Int32).toInt ≤ 1000000 by decide)⟩
theorem ic00 : IC0 sgC0 := by
  have k0 : (0 : Int32).toInt = 0 := by decide
  refine ⟨fun k j => ?_, fun k j hk => ?_⟩
  · by_cases h : k ≠ 3 ∧ k ≠ 4 ∧ k ≠ 7 ∧ k ≠ 10 ∧ k ≠ 99
    · rw [sg0 h, k0]; exact tb0 h.2.2.2.2
    · by_cases c : k = 99
      · subst c
        by_cases d : j = 63 ∨ j = 64 ∨ j = 65 ∨ j = 66
        · rcases d with z | z | z | z <;> subst z <;> decide
        · have e : tbC 99 j = (-2147483648, 2147483647) := by
            show (if 63 ≤ j ∧ j ≤ 66 then _ else _) = _
            rw [if_neg (by omega)]
          rw [e]; exact ⟨lo32 _, hi32 _⟩
      · rcases (show k = 3 ∨ k = 4 ∨ k = 7 ∨ k = 10 by omega) with z | z | z | z <;> subst z
        · by_cases d : j = 2
          · subst d; decide
          · have e : tbC 3 j = (-2147483648, 2147483647) := if_neg d
            rw [e]; exact ⟨lo32 _, hi32 _⟩
        · exact ⟨lo32 _, hi32 _⟩
        · exact ⟨lo32 _, hi32 _⟩
        · exact ⟨lo32 _, hi32 _⟩
  · rw [sg0 (by omega)]; right; decide
theorem cr0 : CR sgC0 := by
  have p : pw sgC0 = 1 := by rw [pw_is]; decide
  refine ⟨by decide, by decide, fun _ => by rw [p]; decide, fun z => absurd z (by decide), by decide⟩
theorem im0 : IM sgM0 lg0 := by
  refine ⟨fun k j => ?_, fun i => by show (0 : Int64).toInt ≤ 12; decide, sv0⟩
  show (tbM k j).1 ≤ (0 : Int32).toInt ∧ (0 : Int32).toInt ≤ (tbM k j).2
  rw [show (0 : Int32).toInt = 0 by decide]
  exact tbm0 k j
theorem rel0 : Rel KRg 0 sgC0 sgM0 lg0 := by
  refine ⟨⟨ic00, cr0⟩, im0, ⟨⟨rfl, fun h hh => ?_⟩, by decide, fun d hd => ?_⟩, by decide, krg0⟩
  · have e : (sgC0 1 0).toInt = 0 := by decide
    omega
  · have e : (sgM0 0 2).toInt.toNat = 0 := by decide
    omega
theorem whole_start {p : Program} {e : Env} {s : State} {m : MethodId} {below : List Frame} {meth : Method} {c : Code} (l : Launch) {b L : Nat} {xs : Nat → Int32} (hL : L ≤ 2560) (C0 : lw_At p s m meth c b L xs) : W p l e room_1 s m #[Value.ref b] below meth c s.heap [] 0 0 (lw_Z below #[Value.ref b] s) (entryFrame m ([Value.ref b] : List Value).toArray 4) :=
  law_start l hL C0 (Rel KRg) rel0 (fun cn o a1 a2 a3 a4 sx sm lm hc hR => step_all o a1 a2 a3 a4 (by omega) hR)
